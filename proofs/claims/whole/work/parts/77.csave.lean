/-! the class: saved states and now -/
/-- the class's object and its states are the reference's: K saved ones S, now P -/
def TG (E K : Nat) (S : Nat → PS) (P : PS) (pm x1 x2 Ln : Nat → Nat) (g : Gh) (mi : MI) (mr : MR) : Prop := ((g.1 2 = 5 ∧ mr 2 0 = 3 ∧ mr 2 2 = Ad (pm 3)) ∧ (g.1 3 = 25 ∧ g.2.1 3 = 3 ∧ ∀ i, i < 3 → mr 3 i = Ad (pm i)) ∧ (mi 2 1 = nI K ∧ K ≤ 3)) ∧ ((∀ i, i < 4 → pm i < 4) ∧ ∀ i j, i < 4 → j < 4 → ¬ i = j → ¬ pm i = pm j) ∧ TS E x1 x2 Ln g mi mr ∧ (∀ i, i < K → CS (Ad (pm i)) 0 (nC (S i).1) (nM (S i).1) (x1 (pm i)) (x2 (pm i)) (Ln (pm i)) (S i).1 (S i).2 g mi mr) ∧ CS (Ad (pm 3)) 0 (nC P.1) (nM P.1) (x1 (pm 3)) (x2 (pm 3)) (Ln (pm 3)) P.1 P.2 g mi mr
/-- what lies outside of the class -/
def OX (g : Gh) (mi : MI) (ml : ML) (mr : MR) (g' : Gh) (mi' : MI) (ml' : ML) (mr' : MR) : Prop := ∀ a, a = 1 ∨ (292 ≤ a ∧ a < 298) → mi' a = mi a ∧ ml' a = ml a ∧ mr' a = mr a ∧ g'.1 a = g.1 a ∧ g'.2.1 a = g.2.1 a
section CSAV
variable {s s2 off N n n0 a1 a2 b1 b2 L M e c w k k0 v j f a d o z x y t D p i C J B lo hi E K c1 c2 M' L' : Nat} {r r' r1 : Nat → Int32} {q q' : Nat → Int64} {g g' : Gh} {mi mi' m' : MI} {ml ml' l' : ML} {mr mr' : MR} {x1 x2 Ln pm : Nat → Nat} {S : Nat → PS} {P P' : PS} {X : Nat → Nat → Nat}
theorem OX.rf : OX g mi ml mr g mi ml mr := fun _ _ => ⟨rfl, rfl, rfl, rfl, rfl⟩
theorem OX.tr {g2 : Gh} {m2 : MI} {l2 : ML} {r2' : MR} (h : OX g mi ml mr g' mi' ml' mr') (h2 : OX g' mi' ml' mr' g2 m2 l2 r2') : OX g mi ml mr g2 m2 l2 r2' := fun a ha => by
  obtain ⟨a1, a2, a3, a4, a5⟩ := h a ha
  obtain ⟨b1, b2, b3, b4, b5⟩ := h2 a ha
  exact ⟨b1.trans a1, b2.trans a2, b3.trans a3, b4.trans a4, b5.trans a5⟩
theorem OF.ox (h : OF g mi ml mr g' mi' ml' mr') : OX g mi ml mr g' mi' ml' mr' := fun a ha => h a (by omega)
/-- below the states something is written -/
theorem SA.ge4 (h : SA s a1 a2 L g mr) (hs : 4 ≤ s) : 4 ≤ a1 ∧ 4 ≤ a2 := by
  obtain ⟨-, -, ⟨e1, e2, -⟩, -⟩ := h
  omega
theorem CS.lw (h : CS s off N n a1 a2 L r q g mi mr) (hs : 4 ≤ s) (hm : ∀ a, 4 ≤ a → mi' a = mi a ∧ mr' a = mr a) : CS s off N n a1 a2 L r q g mi' mr' := by
  have h4 := h.2.1.ge4 hs
  have r4 := (hm (s + 4) (by omega)).2
  refine h.move (fun a _ _ => ⟨rfl, rfl⟩) (fun a ha _ _ _ => (hm a (Nat.le_trans hs ha)).1) (fun a f ha _ _ => by rw [(hm a (Nat.le_trans hs ha)).2]) ?_ (Nat.le_refl L) (fun i _ => by rw [(hm a1 h4.1).1]) (fun i _ => by rw [(hm a2 h4.2).1])
  obtain ⟨⟨e1, e2⟩, e3⟩ := h.2.1
  exact ⟨⟨by rw [r4]; exact e1, by rw [r4]; exact e2⟩, e3⟩
theorem TS.lw (h : TS E x1 x2 Ln g mi mr) (hm : ∀ a, 4 ≤ a → mi' a = mi a ∧ mr' a = mr a) : TS E x1 x2 Ln g mi' mr' := by
  refine ⟨fun k hk => ?_, h.2⟩
  obtain ⟨d1, d2, d3⟩ := h.1 k hk
  have hb := Ad_b hk
  have r4 := (hm (Ad k + 4) (by omega)).2
  refine ⟨d1.keep (mi := mi) (m' := mi') (fun a ha _ => ⟨(hm a (by omega)).1, (hm a (by omega)).2, rfl, rfl⟩), ?_, fun e c he hc => ?_⟩
  · obtain ⟨⟨e1, e2⟩, e3⟩ := d2
    exact ⟨⟨by rw [r4]; exact e1, by rw [r4]; exact e2⟩, e3⟩
  · rw [(hm (eA (Ad k) e c) (by unfold eA; omega)).1]
    exact d3 e c he hc
theorem CS.eq480 (h : CS s off N n a1 a2 L r q g mi mr) (hN : N ≤ 40) (hr : ∀ j, j < 480 → r' j = r j) (hq : ∀ i, i < n → q' i = q i) : CS s off N n a1 a2 L r' q' g mi mr := by
  obtain ⟨h1, h2, ⟨h3, h5, h6⟩, ⟨h7, h8⟩, h10, h11⟩ := h
  refine ⟨h1, h2, ⟨h3.row (fun j hk => hr j hk.1), fun e' c' he' hc' => ?_, h6⟩, ⟨(hr 11 (by decide)).trans h7, h8⟩, fun i hi => by rw [hq i hi]; exact h10 i hi, fun i hi => by rw [hr 2 (by decide)]; exact h11 i hi⟩
  rw [hr _ (by have := eI_lt he' hc' (show 4 < 9 by decide); omega), hr _ (by have := eI_lt he' hc' (show 8 < 9 by decide); omega)]
  exact h5 e' c' he' hc'
theorem nC_of (h : r 5 = nI N) (hN : N ≤ 40) : nC r = N := by unfold nC; rw [h]; exact clampN (by omega)
theorem nM_of (h : r 11 = nI n) (hn : n < 1000000) : nM r = n := by unfold nM; rw [h]; exact clampN (by omega)
/-- what a method of the class leaves, of its now -/
theorem TG.now (h : TG E K S P pm x1 x2 Ln g mi mr) {oo : Option Res} {ret : Option Value} (hc : CRs (Ad (pm 3)) 0 N (x1 (pm 3)) (x2 (pm 3)) (Ln (pm 3)) g mi ml mr oo ret P') (h5 : P'.1 5 = nI N) (hN : N ≤ 40) : ∃ y1 y2 Lm g' mi' ml' mr', oo = some (.inl ret, g', mi', ml', mr') ∧ TG E K S P' pm y1 y2 Lm g' mi' mr' ∧ OF g mi ml mr g' mi' ml' mr' := by
  obtain ⟨⟨⟨t1, t2, t3⟩, ⟨t4, t5, t6⟩, t7, t8⟩, ⟨p1, p2⟩, hS, hK, hP⟩ := h
  obtain ⟨n', b1, b2, L', g', mi', ml', mr', e1, e2, e3⟩ := hc
  have h3 := p1 3 (by decide)
  have hof := hS.of h3 e3
  obtain ⟨o1, -, o3, o4, o5⟩ := hof 2 (by decide)
  obtain ⟨-, -, q3, q4, q5⟩ := hof 3 (by decide)
  have hn' : n' < 1000000 := by have := e2.2.2.2.1.2.2.1; have := e2.2.1.2.2.2.2.2.2.2.1; omega
  refine ⟨_, _, _, g', mi', ml', mr', e1, ⟨⟨⟨o4.trans t1, by rw [o3]; exact t2, by rw [o3]; exact t3⟩, ⟨q4.trans t4, q5.trans t5, fun i hi => by rw [q3]; exact t6 i hi⟩, by rw [o1]; exact t7, t8⟩, ⟨p1, p2⟩, hS.up h3 e2.ds e3, fun i hi => ?_, ?_⟩, hof⟩
  · have hne := p2 i 3 (by omega) (by decide) (by omega)
    rw [u1_n hne, u1_n hne, u1_n hne]
    exact hS.cs h3 (p1 i (by omega)) hne e3 (hK i hi)
  · rw [u1_s, u1_s, u1_s, nC_of h5 hN, nM_of e2.2.2.2.1.1 hn']
    exact e2
/-- one state more is saved -/
theorem sv_1 (h : TG E K S P pm x1 x2 Ln g mi mr) (hK3 : K < 3) (hJ : JI X B N t D P.1 P.2) {u1' u2' : Value} : ∃ y1 y2 Lm g' mi' ml' mr', R (d + 3) mX4_save 59 [.ref 2, u1', u2'] [] g mi ml mr = some (.inl none, g', mi', ml', mr') ∧ TG E (K + 1) (fun i => if i = K then P else S i) P pm y1 y2 Lm g' mi' mr' ∧ OX g mi ml mr g' mi' ml' mr' := by
  obtain ⟨⟨⟨t1, t2, t3⟩, ⟨t4, t5, t6⟩, t7, t8⟩, ⟨p1, p2⟩, hS, hK, hP⟩ := h
  obtain ⟨hh, hb, hJ⟩ := hJ
  have hF := hJ.fs
  have hnC := nC_of hF.2.2.2.2.1 hF.2.2.2.1
  have kK := p1 K (by omega)
  have k3 := p1 3 (by decide)
  have hne := p2 K 3 (by omega) (by decide) (by omega)
  obtain ⟨d1, d2, d3, d4⟩ := hS.2.1 (pm K) (pm 3) kK k3 hne
  have hP' := hP
  rw [hnC] at hP'
  obtain ⟨c1, c2, M', g', m', l', r', e1, e2, e3⟩ := c_copy (d := d) (ml := ml) hP' hJ (hS.1 (pm K) kK) (Ad_d k3 kK (fun h9 => hne h9.symm)) (fun h9 => d1 h9.symm) (fun h9 => d3 h9.symm) (fun h9 => d2 h9.symm) (fun h9 => d4 h9.symm) (hS.rm kK)
  have hof := hS.of kK e3
  obtain ⟨o1, -, o3, o4, o5⟩ := hof 2 (by decide)
  obtain ⟨-, -, q3, q4, q5⟩ := hof 3 (by decide)
  have hS2 := hS.up kK e2.ds e3
  have hlw : ∀ a, 4 ≤ a → u2 m' 2 1 (nI (K + 1)) a = m' a ∧ r' a = r' a := fun a ha => ⟨u2_row (by omega), rfl⟩
  have b25 : g.1 3 = 23 ∨ g.1 3 = 24 ∨ g.1 3 = 25 := Or.inr (Or.inr t4)
  have bK : K < 2147483648 := by omega
  have kS : g.1 (Ad (pm K)) = 4 := (hS.1 (pm K) kK).1.1.1
  have m21 : m' 2 1 = nI K := by rw [o1]; exact t7
  refine ⟨_, _, _, g', u2 m' 2 1 (nI (K + 1)), l', r', ?_, ⟨⟨⟨o4.trans t1, by rw [o3]; exact t2, by rw [o3]; exact t3⟩, ⟨q4.trans t4, q5.trans t5, fun i hi => by rw [q3]; exact t6 i hi⟩, u2_at, by omega⟩, ⟨p1, p2⟩, hS2.lw hlw, fun i hi => ?_, ?_⟩, ?_⟩
  · have g5 : g'.1 2 = 5 := o4.trans t1
    simp only [wX4_save_0, wX4_save_1, wX4_save_4, wX4_save_5, wX4_save_8, wX4_save_9, wX4_save_12, wX4_save_13, wX4_save_14i, wX4_save_14r, wX4_save_14n, wX4_save_15, wX4_save_16i, wX4_save_16r, wX4_save_16n, wX4_save_18, wX4_save_19, wX4_save_22, wX4_save_23, wX4_save_26, wX4_save_27, wX4_save_28, wX4_save_29, wX4_save_30, wX4_save_33, wX4_save_34, wX4_save_35, wX4_save_36i, wX4_save_36r, wX4_save_36n, wX4_save_39, wX4_save_42, wX4_save_43, wX4_save_46, wX4_save_47, wX4_save_48, wX4_save_49, wX4_save_50, wX4_save_51, wX4_save_54, wX4_save_55, wX4_save_56, wX4_save_59, wX4_save_60, wX4_save_63, wX4_save_64, wX4_save_67, wX4_save_68, wX4_save_69, wX4_save_72, wX4_save_75, wX4_save_76, wX4_save_77, wX4_save_80, wX4_save_81, wX4_save_82, wX4_save_85, t1, t2, b25, t5, t7, hK3, bK, t6 K hK3, t3, kS, cs_0, cs_i, cs_r, e1, aR_v, g5, m21, nI_add]
  · by_cases hiK : i = K
    · subst hiK
      dsimp only
      rw [u1_s, u1_s, u1_s, if_pos rfl, hnC]
      have hb' := Ad_b kK
      have hn' : nM P.1 = nM P.1 := rfl
      exact e2.lw (by omega) hlw
    · have hne2 := p2 i K (by omega) (by omega) hiK
      dsimp only
      rw [u1_n hne2, u1_n hne2, u1_n hne2, if_neg hiK]
      exact (hS.cs kK (p1 i (by omega)) hne2 e3 (hK i (by omega))).lw (by have := Ad_b (p1 i (by omega)); omega) hlw
  · have hne3 := p2 3 K (by decide) (by omega) (by omega)
    rw [u1_n hne3, u1_n hne3, u1_n hne3]
    exact (hS.cs kK k3 hne3 e3 hP).lw (by have := Ad_b k3; omega) hlw
  · intro a ha
    obtain ⟨w1, w2, w3, w4, w5⟩ := hof.ox a ha
    exact ⟨by rw [u2_row (by omega)]; exact w1, w2, w3, w4, w5⟩
def pmR (pm : Nat → Nat) : Nat → Nat := fun i => if i = 0 then pm 1 else if i = 1 then pm 2 else if i = 2 then pm 0 else pm i
theorem c_save (h : TG E K S P pm x1 x2 Ln g mi mr) (hJ : JI X B N t D P.1 P.2) : ∃ pm' y1 y2 Lm g' mi' ml' mr', callT (d + 4) mX4_save [.ref 2] (g, mi, ml, mr) = some (.inl none, g', mi', ml', mr') ∧ TG E (svK K) (svS K S P) P pm' y1 y2 Lm g' mi' mr' ∧ OX g mi ml mr g' mi' ml' mr' ∧ pm' 3 = pm 3 := by
  obtain ⟨⟨⟨t1, t2, t3⟩, ⟨t4, t5, t6⟩, t7, t8⟩, ⟨p1, p2⟩, hS, hK, hP⟩ := id h
  rw [eX4_save]
  by_cases hK3 : K = 3
  · subst hK3
    have b25 : g.1 3 = 23 ∨ g.1 3 = 24 ∨ g.1 3 = 25 := Or.inr (Or.inr t4)
    have kd : ∀ i, i < 4 → g.1 (Ad (pm i)) = 4 := fun i hi => (hS.1 (pm i) (p1 i hi)).1.1.1
    have el : ∀ i, i < 4 → g.1 (Ad (pm i)) = elK (g.1 3) := fun i hi => by rw [kd i hi, t4]; rfl
    have n31 : ¬ nI 3 ≤ nI 1 := by decide
    have n32 : ¬ nI 3 ≤ nI 2 := by decide
    have n33 : nI 3 ≤ nI 3 := by decide
    have s11 : nI 1 - nI 1 = nI 0 := by decide
    have s21 : nI 2 - nI 1 = nI 1 := by decide
    have s31 : nI 3 - nI 1 = nI 2 := by decide
    have nz : ∀ i, i < 4 → ¬ Ad (pm i) = 0 := fun i hi => by have := Ad_b (p1 i hi); omega
    have r0 := t6 0 (by decide)
    have r1 := t6 1 (by decide)
    have r2_ := t6 2 (by decide)
    have m32 : u2 mr 3 0 (Ad (pm 1)) 3 2 = Ad (pm 2) := by rw [u2_oth (by decide)]; exact r2_
    have c20 : ∀ {F : MR} {b z : Nat}, u2 F 3 b z 2 = F 2 := u2_row (by decide)
    have w1 : R (d + 3) mX4_save 0 [.ref 2, .null, .null] [] g mi ml mr = R (d + 3) mX4_save 59 [.ref 2, .ref (Ad (pm 0)), .int (nI 3)] [] g (u2 mi 2 1 (nI 2)) ml (u2 (u2 (u2 mr 3 0 (Ad (pm 1))) 3 1 (Ad (pm 2))) 3 2 (Ad (pm 0))) := by
      simp only [wX4_save_0, wX4_save_1, wX4_save_4, wX4_save_5, wX4_save_8, wX4_save_9, wX4_save_12, wX4_save_13, wX4_save_14i, wX4_save_14r, wX4_save_14n, wX4_save_15, wX4_save_16i, wX4_save_16r, wX4_save_16n, wX4_save_18, wX4_save_19, wX4_save_22, wX4_save_23, wX4_save_26, wX4_save_27, wX4_save_28, wX4_save_29, wX4_save_30, wX4_save_33, wX4_save_34, wX4_save_35, wX4_save_36i, wX4_save_36r, wX4_save_36n, wX4_save_39, wX4_save_42, wX4_save_43, wX4_save_46, wX4_save_47, wX4_save_48, wX4_save_49, wX4_save_50, wX4_save_51, wX4_save_54, wX4_save_55, wX4_save_56, wX4_save_60, wX4_save_63, wX4_save_64, wX4_save_67, wX4_save_68, wX4_save_69, wX4_save_72, wX4_save_75, wX4_save_76, wX4_save_77, wX4_save_80, wX4_save_81, wX4_save_82, wX4_save_85, t1, t2, t5, b25, t7, if_true, r0, nz 0 (by decide), ne_eq, not_false_iff, Nat.reduceLT]
      rw [wX4_save_17]
      simp only [wX4_save_0, wX4_save_1, wX4_save_4, wX4_save_5, wX4_save_8, wX4_save_9, wX4_save_12, wX4_save_13, wX4_save_14i, wX4_save_14r, wX4_save_14n, wX4_save_15, wX4_save_16i, wX4_save_16r, wX4_save_16n, wX4_save_18, wX4_save_19, wX4_save_22, wX4_save_23, wX4_save_26, wX4_save_27, wX4_save_28, wX4_save_29, wX4_save_30, wX4_save_33, wX4_save_34, wX4_save_35, wX4_save_36i, wX4_save_36r, wX4_save_36n, wX4_save_39, wX4_save_42, wX4_save_43, wX4_save_46, wX4_save_47, wX4_save_48, wX4_save_49, wX4_save_50, wX4_save_51, wX4_save_54, wX4_save_55, wX4_save_56, wX4_save_60, wX4_save_63, wX4_save_64, wX4_save_67, wX4_save_68, wX4_save_69, wX4_save_72, wX4_save_75, wX4_save_76, wX4_save_77, wX4_save_80, wX4_save_81, wX4_save_82, wX4_save_85, n31, if_false, t1, t2, t5, b25, r1, s11, el 1 (by decide), Nat.reduceLT, nI_add, Nat.reduceAdd, nz 1 (by decide), ne_eq, not_false_iff]
      rw [wX4_save_17]
      simp only [wX4_save_0, wX4_save_1, wX4_save_4, wX4_save_5, wX4_save_8, wX4_save_9, wX4_save_12, wX4_save_13, wX4_save_14i, wX4_save_14r, wX4_save_14n, wX4_save_15, wX4_save_16i, wX4_save_16r, wX4_save_16n, wX4_save_18, wX4_save_19, wX4_save_22, wX4_save_23, wX4_save_26, wX4_save_27, wX4_save_28, wX4_save_29, wX4_save_30, wX4_save_33, wX4_save_34, wX4_save_35, wX4_save_36i, wX4_save_36r, wX4_save_36n, wX4_save_39, wX4_save_42, wX4_save_43, wX4_save_46, wX4_save_47, wX4_save_48, wX4_save_49, wX4_save_50, wX4_save_51, wX4_save_54, wX4_save_55, wX4_save_56, wX4_save_60, wX4_save_63, wX4_save_64, wX4_save_67, wX4_save_68, wX4_save_69, wX4_save_72, wX4_save_75, wX4_save_76, wX4_save_77, wX4_save_80, wX4_save_81, wX4_save_82, wX4_save_85, n32, if_false, t1, c20, t2, t5, b25, m32, s21, el 2 (by decide), Nat.reduceLT, nI_add, Nat.reduceAdd, nz 2 (by decide), ne_eq, not_false_iff]
      rw [wX4_save_17]
      simp only [wX4_save_0, wX4_save_1, wX4_save_4, wX4_save_5, wX4_save_8, wX4_save_9, wX4_save_12, wX4_save_13, wX4_save_14i, wX4_save_14r, wX4_save_14n, wX4_save_15, wX4_save_16i, wX4_save_16r, wX4_save_16n, wX4_save_18, wX4_save_19, wX4_save_22, wX4_save_23, wX4_save_26, wX4_save_27, wX4_save_28, wX4_save_29, wX4_save_30, wX4_save_33, wX4_save_34, wX4_save_35, wX4_save_36i, wX4_save_36r, wX4_save_36n, wX4_save_39, wX4_save_42, wX4_save_43, wX4_save_46, wX4_save_47, wX4_save_48, wX4_save_49, wX4_save_50, wX4_save_51, wX4_save_54, wX4_save_55, wX4_save_56, wX4_save_60, wX4_save_63, wX4_save_64, wX4_save_67, wX4_save_68, wX4_save_69, wX4_save_72, wX4_save_75, wX4_save_76, wX4_save_77, wX4_save_80, wX4_save_81, wX4_save_82, wX4_save_85, n33, if_true, t1, c20, t2, t5, b25, el 0 (by decide), Nat.reduceLT, t7, s31, nz 0 (by decide), ne_eq, not_false_iff]
    have hlw : ∀ a, 4 ≤ a → u2 mi 2 1 (nI 2) a = mi a ∧ u2 (u2 (u2 mr 3 0 (Ad (pm 1))) 3 1 (Ad (pm 2))) 3 2 (Ad (pm 0)) a = mr a := fun a ha => ⟨u2_row (by omega), by rw [u2_row (by omega), u2_row (by omega), u2_row (by omega)]⟩
    have h2 : TG E 2 (fun i => S (i + 1)) P (pmR pm) x1 x2 Ln g (u2 mi 2 1 (nI 2)) (u2 (u2 (u2 mr 3 0 (Ad (pm 1))) 3 1 (Ad (pm 2))) 3 2 (Ad (pm 0))) := by
      refine ⟨⟨⟨t1, by rw [c20, c20, c20]; exact t2, by rw [c20, c20, c20]; exact t3⟩, ⟨t4, t5, fun i hi => ?_⟩, u2_at, by decide⟩, ⟨fun i hi => ?_, fun i j hi hj hij => ?_⟩, hS.lw hlw, fun i hi => ?_, ?_⟩
      · have : i = 0 ∨ i = 1 ∨ i = 2 := by omega
        rcases this with rfl | rfl | rfl
        · rw [u2_oth (by decide), u2_oth (by decide), u2_at]; rfl
        · rw [u2_oth (by decide), u2_at]; rfl
        · rw [u2_at]; rfl
      · have : i = 0 ∨ i = 1 ∨ i = 2 ∨ i = 3 := by omega
        rcases this with rfl | rfl | rfl | rfl
        · exact p1 1 (by decide)
        · exact p1 2 (by decide)
        · exact p1 0 (by decide)
        · exact p1 3 (by decide)
      · have h1 : i = 0 ∨ i = 1 ∨ i = 2 ∨ i = 3 := by omega
        have h2 : j = 0 ∨ j = 1 ∨ j = 2 ∨ j = 3 := by omega
        rcases h1 with rfl | rfl | rfl | rfl <;> rcases h2 with rfl | rfl | rfl | rfl <;> first | exact absurd rfl hij | exact p2 _ _ (by decide) (by decide) (by decide)
      · have : i = 0 ∨ i = 1 := by omega
        rcases this with rfl | rfl
        · exact (hK 1 (by decide)).lw (by have := Ad_b (p1 1 (by decide)); omega) hlw
        · exact (hK 2 (by decide)).lw (by have := Ad_b (p1 2 (by decide)); omega) hlw
      · exact hP.lw (by have := Ad_b (p1 3 (by decide)); omega) hlw
    obtain ⟨y1, y2, Lm, g', mi', ml', mr', e1, e2, e3⟩ := sv_1 (d := d) (ml := ml) (u1' := .ref (Ad (pm 0))) (u2' := .int (nI 3)) h2 (by decide) hJ
    have hS' : (fun i => if i = 2 then P else S (i + 1)) = svS 3 S P := by funext i; unfold svS; rw [if_pos rfl]
    refine ⟨pmR pm, y1, y2, Lm, g', mi', ml', mr', w1.trans e1, ?_, OX.tr (fun a ha => ⟨u2_row (by omega), rfl, by rw [u2_row (by omega), u2_row (by omega), u2_row (by omega)], rfl, rfl⟩) e3, rfl⟩
    rw [← hS']
    exact e2
  · have hk' : ¬ nI K = nI 3 := fun h9 => hK3 ((nI_eq (by omega) (by decide)).mp h9)
    obtain ⟨y1, y2, Lm, g', mi', ml', mr', e1, e2, e3⟩ := sv_1 (d := d) (ml := ml) (u1' := .null) (u2' := .null) h (by omega) hJ
    have hS' : (fun i => if i = K then P else S i) = svS K S P := by funext i; unfold svS; rw [if_neg hK3]
    have hK' : svK K = K + 1 := by unfold svK; rw [if_neg hK3]
    refine ⟨pm, y1, y2, Lm, g', mi', ml', mr', ?_, ?_, e3, rfl⟩
    · simp only [wX4_save_0, wX4_save_1, wX4_save_4, wX4_save_5, wX4_save_8, wX4_save_9, wX4_save_12, wX4_save_13, wX4_save_14i, wX4_save_14r, wX4_save_14n, wX4_save_15, wX4_save_16i, wX4_save_16r, wX4_save_16n, wX4_save_18, wX4_save_19, wX4_save_22, wX4_save_23, wX4_save_26, wX4_save_27, wX4_save_28, wX4_save_29, wX4_save_30, wX4_save_33, wX4_save_34, wX4_save_35, wX4_save_36i, wX4_save_36r, wX4_save_36n, wX4_save_39, wX4_save_42, wX4_save_43, wX4_save_46, wX4_save_47, wX4_save_48, wX4_save_49, wX4_save_50, wX4_save_51, wX4_save_54, wX4_save_55, wX4_save_56, wX4_save_60, wX4_save_63, wX4_save_64, wX4_save_67, wX4_save_68, wX4_save_69, wX4_save_72, wX4_save_75, wX4_save_76, wX4_save_77, wX4_save_80, wX4_save_81, wX4_save_82, wX4_save_85, t1, t7, hk', if_false]
      exact e1
    · rw [← hS', hK']
      exact e2
end CSAV
