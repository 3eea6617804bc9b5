/-! the class: a new beginning -/
def BG (r : Nat → Int32) (z : Int32) (kf ke : Nat) (r' : Nat → Int32) : Prop := r' 0 = z ∧ r' 1 = r 1 ∧ (∀ c, c < kf → r' (12 + c) = nI 0) ∧ ∀ e c w, e < 2 → c < 12 → w < 9 → e * 12 + c < ke → r' (eI e c w) = if w = 1 then -1 else nI 0
section CBEG
variable {s s2 off N n n0 a1 a2 b1 b2 L M e c w k k0 v j f a b d o t D p i C J B E K from_ cnt kf ke : Nat} {r r' r1 : Nat → Int32} {q q' : Nat → Int64} {g g' : Gh} {mi mi' m' : MI} {ml ml' l' : ML} {mr mr' : MR} {x1 x2 Ln pm : Nat → Nat} {S : Nat → PS} {P P' : PS} {X : Nat → Nat → Nat} {x y z : Int32}
theorem c_fill {x : Nat} (hx : g.1 x = 20) (hl : g.2.1 x = 2) : callT (d + 1) mJ7_fill_53178 [.ref x, .int z] (g, mi, ml, mr) = some (.inl none, g, u2 (u2 mi x 0 z) x 1 z, ml, mr) := by
  have kx : 20 ≤ g.1 x ∧ g.1 x ≤ 25 := by rw [hx]; decide
  have c0 : ¬ nI 2 ≤ nI 0 := by decide
  have c1 : ¬ nI 2 ≤ nI (0 + 1) := by decide
  rw [eJ7_fill_53178]
  simp only [wJ7_fill_53178_0, wJ7_fill_53178_1i, wJ7_fill_53178_1r, wJ7_fill_53178_1n, wJ7_fill_53178_2, wJ7_fill_53178_3, wJ7_fill_53178_4i, wJ7_fill_53178_4r, wJ7_fill_53178_4n, wJ7_fill_53178_6, wJ7_fill_53178_7, wJ7_fill_53178_10, wJ7_fill_53178_11, wJ7_fill_53178_12, wJ7_fill_53178_13, wJ7_fill_53178_14i, wJ7_fill_53178_14r, wJ7_fill_53178_14n, wJ7_fill_53178_17, wJ7_fill_53178_20, kx, and_self, hl]
  rw [wJ7_fill_53178_5]
  simp only [wJ7_fill_53178_0, wJ7_fill_53178_1i, wJ7_fill_53178_1r, wJ7_fill_53178_1n, wJ7_fill_53178_2, wJ7_fill_53178_3, wJ7_fill_53178_4i, wJ7_fill_53178_4r, wJ7_fill_53178_4n, wJ7_fill_53178_6, wJ7_fill_53178_7, wJ7_fill_53178_10, wJ7_fill_53178_11, wJ7_fill_53178_12, wJ7_fill_53178_13, wJ7_fill_53178_14i, wJ7_fill_53178_14r, wJ7_fill_53178_14n, wJ7_fill_53178_17, wJ7_fill_53178_20, c0, if_false, hx, hl, Nat.reduceLT, nI_add]
  rw [wJ7_fill_53178_5]
  simp only [wJ7_fill_53178_0, wJ7_fill_53178_1i, wJ7_fill_53178_1r, wJ7_fill_53178_1n, wJ7_fill_53178_2, wJ7_fill_53178_3, wJ7_fill_53178_4i, wJ7_fill_53178_4r, wJ7_fill_53178_4n, wJ7_fill_53178_6, wJ7_fill_53178_7, wJ7_fill_53178_10, wJ7_fill_53178_11, wJ7_fill_53178_12, wJ7_fill_53178_13, wJ7_fill_53178_14i, wJ7_fill_53178_14r, wJ7_fill_53178_14n, wJ7_fill_53178_17, wJ7_fill_53178_20, c1, if_false, hx, hl, Nat.reduceLT, Nat.reduceAdd, nI_add]
  rw [wJ7_fill_53178_5]
  simp only [wJ7_fill_53178_0, wJ7_fill_53178_1i, wJ7_fill_53178_1r, wJ7_fill_53178_1n, wJ7_fill_53178_2, wJ7_fill_53178_3, wJ7_fill_53178_4i, wJ7_fill_53178_4r, wJ7_fill_53178_4n, wJ7_fill_53178_6, wJ7_fill_53178_7, wJ7_fill_53178_10, wJ7_fill_53178_11, wJ7_fill_53178_12, wJ7_fill_53178_13, wJ7_fill_53178_14i, wJ7_fill_53178_14r, wJ7_fill_53178_14n, wJ7_fill_53178_17, wJ7_fill_53178_20, Int32.le_refl, if_true]
theorem CS.eqJ (h : CS s off N n a1 a2 L r q g mi mr) (hr : ∀ j, okJ N j → r' j = r j) (h8' : ∀ e c, e < 2 → c < 12 → r' (eI e c 8) = r (eI e c 8)) (h11' : r' 11 = r 11) : CS s off N n a1 a2 L r' q g mi mr := by
  obtain ⟨h1, h2, ⟨h3, h5, h6⟩, ⟨h7, h8⟩, h10, h11⟩ := h
  refine ⟨h1, h2, ⟨h3.row hr, fun e' c' he' hc' => ?_, h6⟩, ⟨h11'.trans h7, h8⟩, h10, fun i hi => by rw [hr 2 (okJ_l (by decide) (by decide))]; exact h11 i hi⟩
  rw [hr _ (okJ_e he' hc' (by decide)), h8' e' c' he' hc']
  exact h5 e' c' he' hc'
theorem CS.cut (h : CS s 0 N n a1 a2 L r q g mi mr) : CS s 0 0 0 a1 a2 L (u1 r 11 (nI 0)) q' g (u2 mi (s + 4) 5 (nI 0)) mr := by
  obtain ⟨h1, h2, ⟨h3, h5, h6⟩, ⟨h7, h8, h9⟩, h10, h11⟩ := h
  have hea : ∀ {e c}, ¬ eA s e c = s + 4 := fun {e c} => by unfold eA; omega
  refine ⟨h1, h2, ⟨?_, fun e' c' he' hc' => ?_, fun e' c' he' hc' => ?_⟩, ⟨u1_s, u2_at, by omega, by decide⟩, fun i hi => by omega, fun i hi => by omega⟩
  · have k1 : CV s 0 r mi := fun j hj => h3 j ⟨hj.1, hj.2.1, hj.2.2.1, fun h9 => absurd (hj.2.2.2 h9) (by omega)⟩
    have k2 : CV s 0 r (u2 mi (s + 4) 5 (nI 0)) := k1.skip (fun j hj h9 => no45 j hj.1 hj.2.1 ⟨by omega, h9.2.symm⟩)
    exact k2.row (fun j hj => u1_n hj.2.1)
  · rw [u2_row hea, u1_n (by have := eI_ge (e := e') (c := c') (w := 4); omega), u1_n (by have := eI_ge (e := e') (c := c') (w := 8); omega)]
    exact h5 e' c' he' hc'
  · rw [u2_row hea]; exact h6 e' c' he' hc'
theorem bg_f (h : CS s 0 N n a1 a2 L r' q g mi' mr) (hT : Tr s a1 a2 L g mi ml mr a1 a2 L g mi' ml mr) : ∀ j k r' mi', k + j = 12 → CS s 0 N n a1 a2 L r' q g mi' mr → Tr s a1 a2 L g mi ml mr a1 a2 L g mi' ml mr → BG r z k 0 r' → ∃ r2 m2, R (d + 4) mX3_beginAnew 7 [.ref s, .int z, .int (nI k)] [] g mi' ml mr = R (d + 4) mX3_beginAnew 26 [.ref s, .int z, .int (nI 12)] [] g m2 ml mr ∧ CS s 0 N n a1 a2 L r2 q g m2 mr ∧ Tr s a1 a2 L g mi ml mr a1 a2 L g m2 ml mr ∧ BG r z 12 0 r2 := by
  obtain ⟨⟨⟨c1, c2, -⟩, ⟨c6, c7, -⟩, -⟩, -⟩ := id h
  intro j
  induction j with
  | zero =>
    intro k r' mi' hk h1 h2 h3
    have : k = 12 := by omega
    subst this
    refine ⟨r', mi', ?_, h1, h2, h3⟩
    rw [wX3_beginAnew_7]
    simp only [wX3_beginAnew_0, wX3_beginAnew_1, wX3_beginAnew_2, wX3_beginAnew_5, wX3_beginAnew_6i, wX3_beginAnew_6r, wX3_beginAnew_6n, wX3_beginAnew_8, wX3_beginAnew_10, wX3_beginAnew_13, wX3_beginAnew_14, wX3_beginAnew_17, wX3_beginAnew_18, wX3_beginAnew_19, wX3_beginAnew_20i, wX3_beginAnew_20r, wX3_beginAnew_20n, wX3_beginAnew_23, wX3_beginAnew_27i, wX3_beginAnew_27r, wX3_beginAnew_27n, wX3_beginAnew_29, wX3_beginAnew_30, wX3_beginAnew_33, wX3_beginAnew_34, wX3_beginAnew_37, wX3_beginAnew_38, wX3_beginAnew_41, wX3_beginAnew_42, wX3_beginAnew_43, wX3_beginAnew_46i, wX3_beginAnew_46r, wX3_beginAnew_46n, wX3_beginAnew_49, wX3_beginAnew_52, wX3_beginAnew_53, wX3_beginAnew_54, wX3_beginAnew_57, wX3_beginAnew_58, wX3_beginAnew_61, wX3_beginAnew_64, wX3_beginAnew_65, wX3_beginAnew_66, wX3_beginAnew_69, wX3_beginAnew_70, wX3_beginAnew_71, wX3_beginAnew_74, wX3_beginAnew_75, wX3_beginAnew_76, wX3_beginAnew_79, Int32.le_refl, if_true]
  | succ j ih =>
    intro k r' mi' hk h1 h2 h3
    have d1 : ¬ nI 12 ≤ nI k := nI_ge (by omega) (by omega)
    have b1 : k < 12 := by omega
    have b2 : k < 2147483648 := by omega
    have h4 := h1.lo (j := 12 + k) (a := s + 1) (f := k) (z := nI 0) (by omega) (by omega) (fun h9 => by omega) (by unfold lA; rw [if_neg (by omega), if_pos (by omega)]) (by unfold lF; rw [if_neg (by omega), if_pos (by omega)]; omega)
    obtain ⟨r2, m2, e1, e2, e3, e4⟩ := ih (k + 1) _ _ (by omega) h4 (h2.up (by omega) (by omega)) ⟨(u1_n (by omega)).trans h3.1, (u1_n (by omega)).trans h3.2.1, fun c hc => by
      by_cases h9 : c = k
      · subst h9; exact u1_s
      · rw [u1_n (by omega)]; exact h3.2.2.1 c (by omega), fun e c w he hc hw h9 => absurd h9 (by omega)⟩
    refine ⟨r2, m2, ?_, e2, e3, e4⟩
    rw [wX3_beginAnew_7]
    simp only [wX3_beginAnew_0, wX3_beginAnew_1, wX3_beginAnew_2, wX3_beginAnew_5, wX3_beginAnew_6i, wX3_beginAnew_6r, wX3_beginAnew_6n, wX3_beginAnew_8, wX3_beginAnew_10, wX3_beginAnew_13, wX3_beginAnew_14, wX3_beginAnew_17, wX3_beginAnew_18, wX3_beginAnew_19, wX3_beginAnew_20i, wX3_beginAnew_20r, wX3_beginAnew_20n, wX3_beginAnew_23, wX3_beginAnew_27i, wX3_beginAnew_27r, wX3_beginAnew_27n, wX3_beginAnew_29, wX3_beginAnew_30, wX3_beginAnew_33, wX3_beginAnew_34, wX3_beginAnew_37, wX3_beginAnew_38, wX3_beginAnew_41, wX3_beginAnew_42, wX3_beginAnew_43, wX3_beginAnew_46i, wX3_beginAnew_46r, wX3_beginAnew_46n, wX3_beginAnew_49, wX3_beginAnew_52, wX3_beginAnew_53, wX3_beginAnew_54, wX3_beginAnew_57, wX3_beginAnew_58, wX3_beginAnew_61, wX3_beginAnew_64, wX3_beginAnew_65, wX3_beginAnew_66, wX3_beginAnew_69, wX3_beginAnew_70, wX3_beginAnew_71, wX3_beginAnew_74, wX3_beginAnew_75, wX3_beginAnew_76, wX3_beginAnew_79, d1, if_false, c1, c2, c6, c7, b1, b2, true_or, nI_add]
    exact e1
theorem CS.clr (h : CS s 0 N n a1 a2 L r q g mi mr) (he : e < 2) (hc : c < 12) : ∃ r', CS s 0 N n a1 a2 L r' q g (u2 (u2 (u2 (u2 (u2 (u2 (u2 (u2 (u2 mi (eA s e c) 2 (nI 0)) (eA s e c) 3 (-1)) (eA s e c) 4 (nI 0)) (eA s e c) 5 (nI 0)) (eA s e c) 9 (nI 0)) (eA s e c) 6 (nI 0)) (eA s e c) 7 (nI 0)) (eA s e c) 8 (nI 0)) (eA s e c) 10 (nI 0)) mr ∧ (∀ w, w < 9 → r' (eI e c w) = if w = 1 then -1 else nI 0) ∧ ∀ j, (∀ w, w < 9 → ¬ j = eI e c w) → r' j = r j := by
  have h1 := h.ef (w := 0) (f := 2) (z := nI 0) he hc (by decide) (by decide) rfl
  have h2 := h1.ef (w := 1) (f := 3) (z := -1) he hc (by decide) (by decide) rfl
  have h3 := h2.ef (w := 2) (f := 4) (z := nI 0) he hc (by decide) (by decide) rfl
  have h4 := h3.ef (w := 3) (f := 5) (z := nI 0) he hc (by decide) (by decide) rfl
  have h5 := h4.ef (w := 6) (f := 9) (z := nI 0) he hc (by decide) (by decide) rfl
  have h6 := h5.bk (z := nI 0) (z1 := nI 0) (r' := sE (sE (sE (sE (sE (sE (sE r e c 0 (nI 0)) e c 1 (-1)) e c 2 (nI 0)) e c 3 (nI 0)) e c 6 (nI 0)) e c 4 (nI 0)) e c 8 (nI 0)) he hc (fun h9 => absurd h9 (by unfold bOn; decide)) (fun _ => rfl) (by unfold sE; rw [u1_n (by unfold eI; omega), u1_s]) (fun j g1 g2 => by unfold sE; rw [u1_n g2, u1_n g1])
  have h7 := h6.ef (w := 5) (f := 8) (z := nI 0) he hc (by decide) (by decide) rfl
  have h8 := h7.ef (w := 7) (f := 10) (z := nI 0) he hc (by decide) (by decide) rfl
  refine ⟨_, h8, fun w hw => ?_, fun j hj => ?_⟩
  · have hw' : w = 0 ∨ w = 1 ∨ w = 2 ∨ w = 3 ∨ w = 4 ∨ w = 5 ∨ w = 6 ∨ w = 7 ∨ w = 8 := by omega
    have ne : ∀ {a b : Nat}, ¬ a = b → ¬ eI e c a = eI e c b := fun h9 => by unfold eI; omega
    unfold sE
    rcases hw' with rfl | rfl | rfl | rfl | rfl | rfl | rfl | rfl | rfl
    · rw [u1_n (ne (by decide)), u1_n (ne (by decide)), u1_n (ne (by decide)), u1_n (ne (by decide)), u1_n (ne (by decide)), u1_n (ne (by decide)), u1_n (ne (by decide)), u1_n (ne (by decide)), u1_s]; rfl
    · rw [u1_n (ne (by decide)), u1_n (ne (by decide)), u1_n (ne (by decide)), u1_n (ne (by decide)), u1_n (ne (by decide)), u1_n (ne (by decide)), u1_n (ne (by decide)), u1_s]; rfl
    · rw [u1_n (ne (by decide)), u1_n (ne (by decide)), u1_n (ne (by decide)), u1_n (ne (by decide)), u1_n (ne (by decide)), u1_n (ne (by decide)), u1_s]; rfl
    · rw [u1_n (ne (by decide)), u1_n (ne (by decide)), u1_n (ne (by decide)), u1_n (ne (by decide)), u1_n (ne (by decide)), u1_s]; rfl
    · rw [u1_n (ne (by decide)), u1_n (ne (by decide)), u1_n (ne (by decide)), u1_s]; rfl
    · rw [u1_n (ne (by decide)), u1_s]; rfl
    · rw [u1_n (ne (by decide)), u1_n (ne (by decide)), u1_n (ne (by decide)), u1_n (ne (by decide)), u1_s]; rfl
    · rw [u1_s]; rfl
    · rw [u1_n (ne (by decide)), u1_n (ne (by decide)), u1_s]; rfl
  · unfold sE
    rw [u1_n (hj 7 (by decide)), u1_n (hj 5 (by decide)), u1_n (hj 8 (by decide)), u1_n (hj 4 (by decide)), u1_n (hj 6 (by decide)), u1_n (hj 3 (by decide)), u1_n (hj 2 (by decide)), u1_n (hj 1 (by decide)), u1_n (hj 0 (by decide))]
theorem bg_e (h : CS s 0 N n a1 a2 L r' q g mi' mr) : ∀ j k r' mi', k + j = 24 → CS s 0 N n a1 a2 L r' q g mi' mr → Tr s a1 a2 L g mi ml mr a1 a2 L g mi' ml mr → BG r z 12 k r' → ∃ r2 m2, R (d + 4) mX3_beginAnew 28 [.ref s, .int z, .int (nI k)] [] g mi' ml mr = R (d + 4) mX3_beginAnew 52 [.ref s, .int z, .int (nI 24)] [] g m2 ml mr ∧ CS s 0 N n a1 a2 L r2 q g m2 mr ∧ Tr s a1 a2 L g mi ml mr a1 a2 L g m2 ml mr ∧ BG r z 12 24 r2 := by
  obtain ⟨⟨⟨c1, -, c3, -⟩, ⟨-, -, c8, c9, -⟩, -, c16, -⟩, -⟩ := id h
  have hka : g.1 (s + 2) = 23 ∨ g.1 (s + 2) = 24 ∨ g.1 (s + 2) = 25 := Or.inl c8
  have hkl : 20 ≤ g.1 (s + 2) ∧ g.1 (s + 2) ≤ 25 := by rw [c8]; decide
  intro j
  induction j with
  | zero =>
    intro k r' mi' hk h1 h2 h3
    have : k = 24 := by omega
    subst this
    refine ⟨r', mi', ?_, h1, h2, h3⟩
    rw [wX3_beginAnew_28]
    simp only [wX3_beginAnew_0, wX3_beginAnew_1, wX3_beginAnew_2, wX3_beginAnew_5, wX3_beginAnew_6i, wX3_beginAnew_6r, wX3_beginAnew_6n, wX3_beginAnew_8, wX3_beginAnew_10, wX3_beginAnew_13, wX3_beginAnew_14, wX3_beginAnew_17, wX3_beginAnew_18, wX3_beginAnew_19, wX3_beginAnew_20i, wX3_beginAnew_20r, wX3_beginAnew_20n, wX3_beginAnew_23, wX3_beginAnew_26, wX3_beginAnew_27i, wX3_beginAnew_27r, wX3_beginAnew_27n, wX3_beginAnew_29, wX3_beginAnew_30, wX3_beginAnew_33, wX3_beginAnew_34, wX3_beginAnew_37, wX3_beginAnew_38, wX3_beginAnew_41, wX3_beginAnew_42, wX3_beginAnew_43, wX3_beginAnew_46i, wX3_beginAnew_46r, wX3_beginAnew_46n, wX3_beginAnew_49, wX3_beginAnew_53, wX3_beginAnew_54, wX3_beginAnew_57, wX3_beginAnew_58, wX3_beginAnew_61, wX3_beginAnew_64, wX3_beginAnew_65, wX3_beginAnew_66, wX3_beginAnew_69, wX3_beginAnew_70, wX3_beginAnew_71, wX3_beginAnew_74, wX3_beginAnew_75, wX3_beginAnew_76, wX3_beginAnew_79, c1, c3, hkl, and_self, c9, Int32.le_refl, if_true]
  | succ j ih =>
    intro k r' mi' hk h1 h2 h3
    have d1 : ¬ nI 24 ≤ nI k := nI_ge (by omega) (by omega)
    have b1 : k < 24 := by omega
    have b2 : k < 2147483648 := by omega
    obtain ⟨kk, rk⟩ := c16 k b1
    have hA : s + 8 + k = eA s (k / 12) (k % 12) := by unfold eA; omega
    have he : k / 12 < 2 := by omega
    have hc : k % 12 < 12 := by omega
    rw [hA] at kk rk
    obtain ⟨r3, h4, h5, h6⟩ := h1.clr he hc
    have h7 := ((((((((h2.eA_ (f := 2) (y := nI 0) he hc).eA_ (f := 3) (y := -1) he hc).eA_ (f := 4) (y := nI 0) he hc).eA_ (f := 5) (y := nI 0) he hc).eA_ (f := 9) (y := nI 0) he hc).eA_ (f := 6) (y := nI 0) he hc).eA_ (f := 7) (y := nI 0) he hc).eA_ (f := 8) (y := nI 0) he hc).eA_ (f := 10) (y := nI 0) he hc
    have lo : ∀ i, i < 24 → r3 i = r' i := fun i hi => h6 i (fun w hw h9 => by have := eI_ge (e := k / 12) (c := k % 12) (w := w); omega)
    obtain ⟨r2, m2, e1, e2, e3, e4⟩ := ih (k + 1) _ _ (by omega) h4 h7 ⟨(lo 0 (by decide)).trans h3.1, (lo 1 (by decide)).trans h3.2.1, fun c hc => (lo (12 + c) (by omega)).trans (h3.2.2.1 c hc), fun e' c' w he' hc' hw h9 => by
      by_cases h8 : e' = k / 12 ∧ c' = k % 12
      · rw [h8.1, h8.2]; exact h5 w hw
      · rw [h6 _ (fun w' hw' h7 => h8 (by unfold eI at h7; omega))]
        exact h3.2.2.2 e' c' w he' hc' hw (by omega)⟩
    refine ⟨r2, m2, ?_, e2, e3, e4⟩
    rw [wX3_beginAnew_28]
    simp only [wX3_beginAnew_0, wX3_beginAnew_1, wX3_beginAnew_2, wX3_beginAnew_5, wX3_beginAnew_6i, wX3_beginAnew_6r, wX3_beginAnew_6n, wX3_beginAnew_8, wX3_beginAnew_10, wX3_beginAnew_13, wX3_beginAnew_14, wX3_beginAnew_17, wX3_beginAnew_18, wX3_beginAnew_19, wX3_beginAnew_20i, wX3_beginAnew_20r, wX3_beginAnew_20n, wX3_beginAnew_23, wX3_beginAnew_26, wX3_beginAnew_27i, wX3_beginAnew_27r, wX3_beginAnew_27n, wX3_beginAnew_29, wX3_beginAnew_30, wX3_beginAnew_33, wX3_beginAnew_34, wX3_beginAnew_37, wX3_beginAnew_38, wX3_beginAnew_41, wX3_beginAnew_42, wX3_beginAnew_43, wX3_beginAnew_46i, wX3_beginAnew_46r, wX3_beginAnew_46n, wX3_beginAnew_49, wX3_beginAnew_53, wX3_beginAnew_54, wX3_beginAnew_57, wX3_beginAnew_58, wX3_beginAnew_61, wX3_beginAnew_64, wX3_beginAnew_65, wX3_beginAnew_66, wX3_beginAnew_69, wX3_beginAnew_70, wX3_beginAnew_71, wX3_beginAnew_74, wX3_beginAnew_75, wX3_beginAnew_76, wX3_beginAnew_79, d1, if_false, c1, c3, hkl, and_self, hka, c9, b1, b2, rk, kk, cs_0, c_clear kk, aR_v, nI_add]
    exact e1
theorem c_begin (h : CS s 0 N n a1 a2 L r q g mi mr) : CRs s 0 0 a1 a2 L g mi ml mr (callT (d + 5) mX3_beginAnew [.ref s, .int z] (g, mi, ml, mr)) none (pBeg r z, q) := by
  obtain ⟨⟨⟨c1, -, -, -, c5⟩, -, ⟨c12, c13, c14, c15⟩, -⟩, -⟩ := id h
  have h1 := h.lo (j := 0) (a := s) (f := 0) (z := z) (by decide) (by decide) (fun h9 => absurd h9 (by decide)) rfl rfl
  have T1 : Tr s a1 a2 L g mi ml mr a1 a2 L g (u2 mi s 0 z) ml mr := Tr.rf.up (by omega) (by omega)
  obtain ⟨r2, m2, e1, e2, e3, e4⟩ := bg_f (d := d) (ml := ml) (r := r) (z := z) h1 T1 12 0 _ _ (by omega) h1 T1 ⟨u1_s, u1_n (by decide), fun c hc => absurd hc (by omega), fun e c w he hc hw h9 => absurd h9 (by omega)⟩
  obtain ⟨r3, m3, f1, f2, f3, f4⟩ := bg_e (d := d) (ml := ml) (r := r) (z := z) e2 24 0 _ _ (by omega) e2 e3 ⟨e4.1, e4.2.1, e4.2.2.1, fun e c w he hc hw h9 => absurd h9 (by omega)⟩
  have l1 := f2.lo (j := 5) (a := s) (f := 3) (z := nI 0) (by decide) (by decide) (fun h9 => absurd h9 (by decide)) rfl rfl
  have l2 := l1.lo (j := 2) (a := s + 4) (f := 0) (z := nI 0) (by decide) (by decide) (fun _ => rfl) rfl rfl
  have l3 := l2.lo (j := 6) (a := s + 4) (f := 2) (z := nI 0) (by decide) (by decide) (fun _ => rfl) rfl rfl
  have l4 := l3.lo (j := 7) (a := s + 4) (f := 3) (z := nI 0) (by decide) (by decide) (fun _ => rfl) rfl rfl
  have l5 := l4.cut (q' := q)
  have l6 := l5.lo (j := 3) (a := s + 5) (f := 0) (z := nI 0) (by decide) (by decide) (fun _ => rfl) rfl rfl
  have l7 := l6.lo (j := 4) (a := s + 5) (f := 1) (z := nI 0) (by decide) (by decide) (fun _ => rfl) rfl rfl
  have l8 := l7.lo (j := 8) (a := s) (f := 6) (z := nI 0) (by decide) (by decide) (fun _ => rfl) rfl rfl
  have l9 := l8.lo (j := 9) (a := s) (f := 7) (z := nI 0) (by decide) (by decide) (fun _ => rfl) rfl rfl
  have l10 := l9.lo (j := 10) (a := s) (f := 8) (z := nI 0) (by decide) (by decide) (fun _ => rfl) rfl rfl
  have t1 := f3.up (a := s) (f := 3) (y := nI 0) (by omega) (by omega)
  have t2 := t1.up (a := s + 4) (f := 0) (y := nI 0) (by omega) (by omega)
  have t3 := t2.up (a := s + 4) (f := 2) (y := nI 0) (by omega) (by omega)
  have t4 := t3.up (a := s + 4) (f := 3) (y := nI 0) (by omega) (by omega)
  have t5 := t4.up (a := s + 4) (f := 5) (y := nI 0) (by omega) (by omega)
  have t6 := t5.up (a := s + 5) (f := 0) (y := nI 0) (by omega) (by omega)
  have t7 := t6.up (a := s + 5) (f := 1) (y := nI 0) (by omega) (by omega)
  have t8 := t7.up (a := s) (f := 6) (y := nI 0) (by omega) (by omega)
  have t9 := t8.up (a := s) (f := 7) (y := nI 0) (by omega) (by omega)
  have t10 := t9.up (a := s) (f := 8) (y := nI 0) (by omega) (by omega)
  refine ⟨0, a1, a2, L, g, _, ml, mr, ?_, l10.eqJ (r' := pBeg r z) (fun j hj => ?_) (fun e c he hc => ?_) ?_, t10⟩
  · rw [eX3_beginAnew]
    simp only [wX3_beginAnew_0, wX3_beginAnew_1, wX3_beginAnew_2, wX3_beginAnew_5, wX3_beginAnew_6i, wX3_beginAnew_6r, wX3_beginAnew_6n, wX3_beginAnew_8, wX3_beginAnew_10, wX3_beginAnew_13, wX3_beginAnew_14, wX3_beginAnew_17, wX3_beginAnew_18, wX3_beginAnew_19, wX3_beginAnew_20i, wX3_beginAnew_20r, wX3_beginAnew_20n, wX3_beginAnew_23, wX3_beginAnew_26, wX3_beginAnew_27i, wX3_beginAnew_27r, wX3_beginAnew_27n, wX3_beginAnew_29, wX3_beginAnew_30, wX3_beginAnew_33, wX3_beginAnew_34, wX3_beginAnew_37, wX3_beginAnew_38, wX3_beginAnew_41, wX3_beginAnew_42, wX3_beginAnew_43, wX3_beginAnew_46i, wX3_beginAnew_46r, wX3_beginAnew_46n, wX3_beginAnew_49, wX3_beginAnew_52, wX3_beginAnew_53, wX3_beginAnew_54, wX3_beginAnew_57, wX3_beginAnew_58, wX3_beginAnew_61, wX3_beginAnew_64, wX3_beginAnew_65, wX3_beginAnew_66, wX3_beginAnew_69, wX3_beginAnew_70, wX3_beginAnew_71, wX3_beginAnew_74, wX3_beginAnew_75, wX3_beginAnew_76, wX3_beginAnew_79, c1]
    rw [e1]
    simp only [wX3_beginAnew_0, wX3_beginAnew_1, wX3_beginAnew_2, wX3_beginAnew_5, wX3_beginAnew_6i, wX3_beginAnew_6r, wX3_beginAnew_6n, wX3_beginAnew_8, wX3_beginAnew_10, wX3_beginAnew_13, wX3_beginAnew_14, wX3_beginAnew_17, wX3_beginAnew_18, wX3_beginAnew_19, wX3_beginAnew_20i, wX3_beginAnew_20r, wX3_beginAnew_20n, wX3_beginAnew_23, wX3_beginAnew_26, wX3_beginAnew_27i, wX3_beginAnew_27r, wX3_beginAnew_27n, wX3_beginAnew_29, wX3_beginAnew_30, wX3_beginAnew_33, wX3_beginAnew_34, wX3_beginAnew_37, wX3_beginAnew_38, wX3_beginAnew_41, wX3_beginAnew_42, wX3_beginAnew_43, wX3_beginAnew_46i, wX3_beginAnew_46r, wX3_beginAnew_46n, wX3_beginAnew_49, wX3_beginAnew_53, wX3_beginAnew_54, wX3_beginAnew_57, wX3_beginAnew_58, wX3_beginAnew_61, wX3_beginAnew_64, wX3_beginAnew_65, wX3_beginAnew_66, wX3_beginAnew_69, wX3_beginAnew_70, wX3_beginAnew_71, wX3_beginAnew_74, wX3_beginAnew_75, wX3_beginAnew_76, wX3_beginAnew_79]
    rw [f1]
    simp only [wX3_beginAnew_0, wX3_beginAnew_1, wX3_beginAnew_2, wX3_beginAnew_5, wX3_beginAnew_6i, wX3_beginAnew_6r, wX3_beginAnew_6n, wX3_beginAnew_8, wX3_beginAnew_10, wX3_beginAnew_13, wX3_beginAnew_14, wX3_beginAnew_17, wX3_beginAnew_18, wX3_beginAnew_19, wX3_beginAnew_20i, wX3_beginAnew_20r, wX3_beginAnew_20n, wX3_beginAnew_23, wX3_beginAnew_26, wX3_beginAnew_27i, wX3_beginAnew_27r, wX3_beginAnew_27n, wX3_beginAnew_29, wX3_beginAnew_30, wX3_beginAnew_33, wX3_beginAnew_34, wX3_beginAnew_37, wX3_beginAnew_38, wX3_beginAnew_41, wX3_beginAnew_42, wX3_beginAnew_43, wX3_beginAnew_46i, wX3_beginAnew_46r, wX3_beginAnew_46n, wX3_beginAnew_49, wX3_beginAnew_52, wX3_beginAnew_53, wX3_beginAnew_54, wX3_beginAnew_57, wX3_beginAnew_58, wX3_beginAnew_61, wX3_beginAnew_64, wX3_beginAnew_65, wX3_beginAnew_66, wX3_beginAnew_69, wX3_beginAnew_70, wX3_beginAnew_71, wX3_beginAnew_74, wX3_beginAnew_75, wX3_beginAnew_76, wX3_beginAnew_79, c1, c5, c12, cs_0]
    rw [eX2_clear]
    simp only [wX2_clear_0, wX2_clear_1, wX2_clear_2, wX2_clear_5, wX2_clear_6, wX2_clear_7, wX2_clear_10, wX2_clear_11, wX2_clear_12, wX2_clear_15, wX2_clear_16, wX2_clear_17, wX2_clear_20, wX2_clear_21, wX2_clear_24, wX2_clear_25, wX2_clear_28, c12, c13, cs_0, c_fill c14 c15, aR_v]
    simp only [wX3_beginAnew_0, wX3_beginAnew_1, wX3_beginAnew_2, wX3_beginAnew_5, wX3_beginAnew_6i, wX3_beginAnew_6r, wX3_beginAnew_6n, wX3_beginAnew_8, wX3_beginAnew_10, wX3_beginAnew_13, wX3_beginAnew_14, wX3_beginAnew_17, wX3_beginAnew_18, wX3_beginAnew_19, wX3_beginAnew_20i, wX3_beginAnew_20r, wX3_beginAnew_20n, wX3_beginAnew_23, wX3_beginAnew_26, wX3_beginAnew_27i, wX3_beginAnew_27r, wX3_beginAnew_27n, wX3_beginAnew_29, wX3_beginAnew_30, wX3_beginAnew_33, wX3_beginAnew_34, wX3_beginAnew_37, wX3_beginAnew_38, wX3_beginAnew_41, wX3_beginAnew_42, wX3_beginAnew_43, wX3_beginAnew_46i, wX3_beginAnew_46r, wX3_beginAnew_46n, wX3_beginAnew_49, wX3_beginAnew_52, wX3_beginAnew_53, wX3_beginAnew_54, wX3_beginAnew_57, wX3_beginAnew_58, wX3_beginAnew_61, wX3_beginAnew_64, wX3_beginAnew_65, wX3_beginAnew_66, wX3_beginAnew_69, wX3_beginAnew_70, wX3_beginAnew_71, wX3_beginAnew_74, wX3_beginAnew_75, wX3_beginAnew_76, wX3_beginAnew_79, c1]
  · obtain ⟨g1, g2, g3, g4⟩ := f4
    obtain ⟨j1, j2, j3, j4⟩ := hj
    by_cases p0 : j = 0
    · subst p0; rw [beg_0, u1_n (by decide), u1_n (by decide), u1_n (by decide), u1_n (by decide), u1_n (by decide), u1_n (by decide), u1_n (by decide), u1_n (by decide), u1_n (by decide), u1_n (by decide)]; exact g1.symm
    · by_cases p1 : j = 1
      · subst p1; rw [beg_1, u1_n (by decide), u1_n (by decide), u1_n (by decide), u1_n (by decide), u1_n (by decide), u1_n (by decide), u1_n (by decide), u1_n (by decide), u1_n (by decide), u1_n (by decide)]; exact g2.symm
      · by_cases p24 : j < 24
        · rw [beg_lo p0 p1 (by omega)]
          by_cases p12 : j < 12
          · have hj' : j = 2 ∨ j = 3 ∨ j = 4 ∨ j = 5 ∨ j = 6 ∨ j = 7 ∨ j = 8 ∨ j = 9 ∨ j = 10 := by omega
            unfold u1
            rcases hj' with rfl | rfl | rfl | rfl | rfl | rfl | rfl | rfl | rfl <;> rfl
          · rw [u1_n (by omega), u1_n (by omega), u1_n (by omega), u1_n (by omega), u1_n (by omega), u1_n (by omega), u1_n (by omega), u1_n (by omega), u1_n (by omega), u1_n (by omega)]
            have := g3 (j - 12) (by omega)
            rw [show 12 + (j - 12) = j by omega] at this
            exact this.symm
        · have p240 : j < 240 := by
            by_cases h9 : j < 240
            · exact h9
            · exact absurd (j4 (by omega)) (by omega)
          rw [u1_n (by omega), u1_n (by omega), u1_n (by omega), u1_n (by omega), u1_n (by omega), u1_n (by omega), u1_n (by omega), u1_n (by omega), u1_n (by omega), u1_n (by omega)]
          have hji : j = eI ((j - 24) / 9 % 2) ((j - 24) / 18) ((j - 24) % 9) := by unfold eI; omega
          have he : (j - 24) / 9 % 2 < 2 := by omega
          have hc : (j - 24) / 18 < 12 := by omega
          have hw : (j - 24) % 9 < 9 := by omega
          have g5 := g4 _ _ _ he hc hw (by omega)
          rw [← hji] at g5
          rw [g5]
          by_cases q1 : (j - 24) % 9 = 1
          · have b1 := beg_of (r := r) (z := z) he hc
            rw [← q1, ← hji] at b1
            rw [if_pos q1]; exact b1
          · have b1 := beg_e (r := r) (z := z) he hc hw q1
            rw [← hji] at b1
            rw [if_neg q1]; exact b1
  · have g5 := f4.2.2.2 e c 8 he hc (by decide) (by omega)
    have ge := eI_ge (e := e) (c := c) (w := 8)
    rw [u1_n (by omega), u1_n (by omega), u1_n (by omega), u1_n (by omega), u1_n (by omega), u1_n (by omega), u1_n (by omega), u1_n (by omega), u1_n (by omega), u1_n (by omega), g5, beg_e he hc (by decide) (by decide)]
    rfl
  · rw [beg_lo (by decide) (by decide) (by decide)]
    rfl
theorem k_setCi1 (h : TG E K S (r, q) pm x1 x2 Ln g mi mr) (hJ : JI X B N t D r q) (h1 : 1 ≤ C) (h2 : C ≤ 12) : CTr E (svK K) (svS K S (r, q)) (pBeg r (nI C), q) g mi ml mr (callT (d + 6) mX4_setCircuits [.ref 2, .int (nI C)] (g, mi, ml, mr)) (some (.int (r 0))) := by
  obtain ⟨k1, k2, k3, k4, k5⟩ := h.k2
  have v0 : mi (Ad (pm 3)) 0 = r 0 := h.cs.lv (j := 0) (a := Ad (pm 3)) (by decide) (by decide) rfl rfl
  obtain ⟨pm', y1, y2, Lm, g', mi', ml', mr', e1, e2, e3, e4⟩ := c_save (d := d + 1) (ml := ml) h hJ
  obtain ⟨m1, m2, m3, m4, m5⟩ := e2.k2
  have c1 : ¬ nI C < nI 1 := nI_nlt h1 (by omega)
  have c2 : nI C ≤ nI 12 := nI_le h2 (by decide)
  obtain ⟨z1, z2, Lz, g2, i2, w2, r2, f1, f2, f3⟩ := e2.now (P' := (pBeg r (nI C), q)) (c_begin (d := d) (ml := ml') (z := nI C) e2.cs) (beg_lo (r := r) (z := nI C) (j := 5) (by decide) (by decide) (by decide)) (by decide)
  refine ⟨pm', z1, z2, Lz, g2, i2, w2, r2, ?_, f2, e3.tr f3.ox⟩
  rw [eX4_setCircuits]
  simp only [wX4_setCircuits_0, wX4_setCircuits_1, wX4_setCircuits_2, wX4_setCircuits_5, wX4_setCircuits_6, wX4_setCircuits_8, wX4_setCircuits_11, wX4_setCircuits_14, wX4_setCircuits_21, wX4_setCircuits_22, wX4_setCircuits_25, wX4_setCircuits_28i, wX4_setCircuits_28r, wX4_setCircuits_28n, wX4_setCircuits_29, wX4_setCircuits_30, wX4_setCircuits_33, wX4_setCircuits_34, wX4_setCircuits_37, wX4_setCircuits_38, wX4_setCircuits_41, wX4_setCircuits_42, c1, c2, if_false, if_true, k1, k2, k3, v0, cs_0, cs_i, cs_r, e1, aR_v, m1, m2, m3, f1]
theorem k_setCi0 (h : TG (E + 1) K S (r, q) pm x1 x2 Ln g mi mr) (hz : ¬ (nI 1 ≤ z ∧ z ≤ nI 12)) : CTx E K S (r, q) g mi ml mr (callT (d + 7) mX4_setCircuits [.ref 2, .int z] (g, mi, ml, mr)) "java/lang/IllegalArgumentException" := by
  obtain ⟨⟨h1, h2⟩, -⟩ := h.thr
  rw [eX4_setCircuits]
  by_cases p : z < nI 1
  · simp only [wX4_setCircuits_0, wX4_setCircuits_1, wX4_setCircuits_2, wX4_setCircuits_5, wX4_setCircuits_6, wX4_setCircuits_8, wX4_setCircuits_11, wX4_setCircuits_14, wX4_setCircuits_21, wX4_setCircuits_22, wX4_setCircuits_25, wX4_setCircuits_28i, wX4_setCircuits_28r, wX4_setCircuits_28n, wX4_setCircuits_29, wX4_setCircuits_30, wX4_setCircuits_33, wX4_setCircuits_34, wX4_setCircuits_37, wX4_setCircuits_38, wX4_setCircuits_41, wX4_setCircuits_42, p, if_true, h1, h2, cs_0]
    exact h.ctx
  · have p2 : ¬ z ≤ nI 12 := fun h9 => hz ⟨Int32.not_lt.mp p, h9⟩
    simp only [wX4_setCircuits_0, wX4_setCircuits_1, wX4_setCircuits_2, wX4_setCircuits_5, wX4_setCircuits_6, wX4_setCircuits_8, wX4_setCircuits_11, wX4_setCircuits_14, wX4_setCircuits_21, wX4_setCircuits_22, wX4_setCircuits_25, wX4_setCircuits_28i, wX4_setCircuits_28r, wX4_setCircuits_28n, wX4_setCircuits_29, wX4_setCircuits_30, wX4_setCircuits_33, wX4_setCircuits_34, wX4_setCircuits_37, wX4_setCircuits_38, wX4_setCircuits_41, wX4_setCircuits_42, p, p2, if_false, h1, h2, cs_0]
    exact h.ctx
end CBEG
