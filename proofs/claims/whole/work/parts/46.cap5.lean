/-! how many messages there can be: timers -/
section CAP5
variable {X : Nat → Nat → Nat} {β β' T h hb : Nat → Nat} {A : Nat × Nat} {N t D e c w w' k k' v v' n j x s a p B : Nat} {r r' r1 : Nat → Int32} {q q' : Nat → Int64} {z z1 : Int32} {G : Nat → GM} {tg : Tg} {m : Ms} {g : GM}
/-- what there may be, of each -/
def std (B : Nat) : Nat → Nat := fun s => if s = 0 then B else if s < 169 then 2 else 1
theorem std_cap (h : B ≤ 12012) : Cap (std B) := by
  refine ⟨by unfold std; rw [if_pos rfl]; exact h, fun s => ⟨fun h1 h2 => ?_, fun h1 h2 => ?_⟩⟩
  · unfold std; rw [if_neg (by omega), if_pos h2]; exact Nat.le_refl 2
  · unfold std; rw [if_neg (by omega), if_neg (by omega)]; exact Nat.le_refl 1
/-- nothing of one part: none of it is counted -/
theorem JG.free (hJ : JG X β T A h hb N t D r q) (hs0 : ¬ s = 0) (hs : ∀ g : GM, tgOK h hb g → (A.2 = 0 → A.1 < g.1.1) → g.1.2.2.2.1 < 14 → ¬ slot g.2 = s) : JG X (u1 β s 0) T A h hb N t D r q := by
  obtain ⟨a1, a2, G, n, a6, a7, a8, a9⟩ := hJ
  refine ⟨a1, a2, G, n, a6, a7, a8, fun s' => ?_⟩
  by_cases h9 : s' = s
  · subst h9
    rw [u1_s, if_neg hs0]
    have : Wt X s' G n = 0 := by
      unfold Wt
      have h1 := sumN_congr (f := fun i => wS X s' (G i)) (f' := fun _ => 0) n (fun i hi => by
        show wS X s' (G i) = 0
        obtain ⟨b1, b2, b3, b4⟩ := a8.1 i hi
        unfold wS
        rw [if_neg (hs (G i) b4 (fun h9 => b3.2 (by omega)) b2.2.2.2.1)])
      rw [h1, sum_const, Nat.mul_zero]
    omega
  · rw [u1_n h9]
    exact a9 s'
theorem life_1 : life 1 k ≤ 60 := by
  unfold life
  rw [if_pos rfl]
  split
  · decide
  · split
    · decide
    · split <;> decide
theorem life_2 : life 2 k ≤ 40 := by
  unfold life
  rw [if_neg (by decide)]
  split
  · decide
  · split <;> decide
theorem slot1 (hx : x < 24) (hg : tgOK h hb g) (hh : h x + 10 ≤ t) (hA : t < g.1.1) : ¬ slot g.2 = slot (1, x, t) := by
  unfold slot
  rw [show ((1, x, t) : Tg).1 = 1 from rfl, if_neg (show ¬ (1 : Nat) = 0 by decide), if_pos (show (1 : Nat) = 1 from rfl)]
  show ¬ _ = 1 + x * 7 + t / 10 % 7
  rcases hg with h1 | ⟨h1, h2, h3, h4⟩ | ⟨h1, h2, h3, h4⟩
  · rw [if_pos h1]; omega
  · rw [if_neg (by omega), if_pos h1]
    have h5 := life_1 (k := g.1.2.2.2.1)
    intro h9
    have hx' : g.2.2.1 = x := by omega
    rw [hx'] at h3
    omega
  · rw [if_neg (by omega), if_neg (by omega)]; omega
theorem slot2 (hx : x < 24) (hg : tgOK h hb g) (hh : hb x + 10 ≤ t) (hA : t < g.1.1) : ¬ slot g.2 = slot (2, x, t) := by
  unfold slot
  rw [show ((2, x, t) : Tg).1 = 2 from rfl, if_neg (show ¬ (2 : Nat) = 0 by decide), if_neg (show ¬ (2 : Nat) = 1 by decide)]
  show ¬ _ = 169 + x * 5 + t / 10 % 5
  rcases hg with h1 | ⟨h1, h2, h3, h4⟩ | ⟨h1, h2, h3, h4⟩
  · rw [if_pos h1]; omega
  · rw [if_neg (by omega), if_pos h1]; omega
  · rw [if_neg (by omega), if_neg (by omega)]
    have h5 := life_2 (k := g.1.2.2.2.1)
    intro h9
    have hx' : g.2.2.1 = x := by omega
    rw [hx'] at h3
    omega
theorem tgOK.mono {h' hb' : Nat → Nat} (hg : tgOK h hb g) (h1 : ∀ x, h x ≤ h' x) (h2 : ∀ x, hb x ≤ hb' x) : tgOK h' hb' g := by
  rcases hg with b | ⟨b1, b2, b3, b4⟩ | ⟨b1, b2, b3, b4⟩
  · exact Or.inl b
  · exact Or.inr (Or.inl ⟨b1, b2, Nat.le_trans b3 (h1 _), b4⟩)
  · exact Or.inr (Or.inr ⟨b1, b2, Nat.le_trans b3 (h2 _), b4⟩)
/-- one end's clocks go on -/
theorem JG.clock {T' h' hb' : Nat → Nat} (hJ : JG X β T A h hb N t D r q) (ht : Tch e c r r') (h11 : r' 11 = r 11) (he : e < 2) (hc : c < 12) (hT : ∀ y, ¬ y = 12 * e + c → ¬ y = 24 + (12 * e + c) → T' y = T y ∧ h' y = h y ∧ hb' y = hb y) (h1 : ∀ x, h x ≤ h' x) (h2 : ∀ x, hb x ≤ hb' x) (hE : EJ X T' h' hb' N r' e c) (hk : chk r' e c ≤ chk r e c) : JG X β T' A h' hb' N t D r' q := by
  obtain ⟨a1, ⟨a2, a3, a4, a5⟩, G, n, a6, a7, a8, a9⟩ := hJ
  refine ⟨a1.of ht he hc hT hE, ⟨(ht 2 (by unfold Es; omega)).trans a2, a3, (ht 1 (by unfold Es; omega)).trans a4, a5⟩, G, n, h11.trans a6, a7, MJ.congr (r := r) ⟨fun i hi => ?_, a8.2⟩ (fun n _ => ht.ci (by omega)), fun s => ?_⟩
  · obtain ⟨b1, b2, b3, b4⟩ := a8.1 i hi
    exact ⟨b1, b2, b3, b4.mono h1 h2⟩
  · have h1 := a9 s
    have h2 := RP.of (N := N) ht he hc
    by_cases hs : s = 0
    · rw [if_pos hs] at h1 ⊢; omega
    · rw [if_neg hs] at h1 ⊢; exact h1
/-- a timer is over: what it sends comes of it -/
theorem tg_new1 (hx : x < 24) (hh : h x = t) (hk : k = 6 ∨ k = 12) (hD : D ≤ 20) : tgOK h hb ((t + D, e, c, k, v, n), (1, x, t)) := by
  refine Or.inr (Or.inl ⟨rfl, hx, Nat.le_of_eq hh.symm, ?_⟩)
  show t + D ≤ t + life 1 k
  unfold life
  rw [if_pos rfl, if_pos hk]
  omega
theorem tg_new2 (hx : x < 24) (hh : hb x = t) (hk : k = 8 ∨ k = 10) (hD : D ≤ 20) : tgOK h hb ((t + D, e, c, k, v, n), (2, x, t)) := by
  refine Or.inr (Or.inr ⟨rfl, hx, Nat.le_of_eq hh.symm, ?_⟩)
  show t + D ≤ t + life 2 k
  unfold life
  rw [if_neg (by decide), if_pos hk]
  omega
theorem std_back (hs : ¬ s = 0) (ha : a ≤ std B s) : ∀ i, ad (u1 (std B) s 0) s a i ≤ std B i := fun i => by
  unfold ad
  by_cases h9 : i = s
  · subst h9; rw [u1_s, u1_s]; omega
  · rw [u1_n h9, u1_n h9]; exact Nat.le_refl _
theorem slot1_v (hx : x < 24) : ¬ slot (1, x, t) = 0 ∧ std B (slot (1, x, t)) = 2 := by
  have h1 : slot (1, x, t) = 1 + x * 7 + t / 10 % 7 := by
    unfold slot
    rw [show ((1, x, t) : Tg).1 = 1 from rfl, if_neg (show ¬ (1 : Nat) = 0 by decide), if_pos (show (1 : Nat) = 1 from rfl)]
  rw [h1]
  refine ⟨by omega, ?_⟩
  unfold std
  rw [if_neg (by omega), if_pos (by omega)]
theorem slot2_v (hx : x < 24) : ¬ slot (2, x, t) = 0 ∧ std B (slot (2, x, t)) = 1 := by
  have h1 : slot (2, x, t) = 169 + x * 5 + t / 10 % 5 := by
    unfold slot
    rw [show ((2, x, t) : Tg).1 = 2 from rfl, if_neg (show ¬ (2 : Nat) = 0 by decide), if_neg (show ¬ (2 : Nat) = 1 by decide)]
  rw [h1]
  refine ⟨by omega, ?_⟩
  unfold std
  rw [if_neg (by omega), if_neg (by omega)]
/-- a check is over: what it kept is free -/
theorem JG.rowd (hJ : JG X β T A h hb N t D r q) (ht : Tch e c r r') (h11 : r' 11 = r 11) (he : e < 2) (hc : c < 12) (hE : EJ X T h hb N r' e c) (hk : chk r' e c + 1 = chk r e c) : JG X (u1 β 0 (β 0 - 1)) T A h hb N t D r' q := by
  obtain ⟨a1, ⟨a2, a3, a4, a5⟩, G, n, a6, a7, a8, a9⟩ := hJ
  refine ⟨a1.of ht he hc (fun _ _ _ => ⟨rfl, rfl, rfl⟩) hE, ⟨(ht 2 (by unfold Es; omega)).trans a2, a3, (ht 1 (by unfold Es; omega)).trans a4, a5⟩, G, n, h11.trans a6, a7, a8.congr (fun n _ => ht.ci (by omega)), fun s => ?_⟩
  have h1 := a9 s
  have h2 := RP.of (N := N) ht he hc
  by_cases hs : s = 0
  · subst hs; rw [if_pos rfl] at h1 ⊢; rw [u1_s]; omega
  · rw [if_neg hs] at h1 ⊢; rw [u1_n hs]; exact h1
theorem u1_id {f : Nat → Nat} {a y : Nat} (h : y = f a) : u1 f a y = f := by
  funext i
  unfold u1
  by_cases h1 : i = a
  · rw [if_pos h1, h, h1]
  · rw [if_neg h1]
/-- the timer's check of a circuit -/
theorem JG.chk_ (hJ : JG X β T A h hb N t D r q) (he : e < 2) (hc : c < 12) (hs : r (eI e c 0) = nI 1) (hw : r (eI e c 6) = nI 1) (hA : A.1 < t + D) (hr : Rm r 2) : JG X β T A h hb N t D (pChk r q e c).1 (pChk r q e c).2 := by
  have hN : N ≤ 40 := hJ.1.2.1.2
  have hR1 : Rm r 1 := hr.mono rfl (by decide)
  have hsend : ∀ v, v < 8 → JG X (u1 β 0 (β 0 + 1)) T A h hb N t D (pSend r q e c 1 v).1 (pSend r q e c 1 v).2 := fun v hv => JG.send (tg := (0, 0, 0)) hJ he hc (show 1 < 14 by decide) hv hA (show 0 < 40 by decide) (fun h9 => absurd h9 (by decide)) (fun _ => rfl) (Or.inl rfl) hR1
  have hck : ∀ v, chk (pSend r q e c 1 v).1 e c = 1 := fun v => by unfold chk; rw [pSend_e he eI_ge, pSend_e he eI_ge, if_pos ⟨hs, hw⟩]
  have hid : u1 (u1 β 0 (β 0 + 1)) 0 (u1 β 0 (β 0 + 1) 0 - 1) = β := by
    funext i
    by_cases h9 : i = 0
    · subst h9; simp only [u1_s]; omega
    · rw [u1_n h9, u1_n h9]
  unfold pChk
  split
  · have h1 := hsend 1 (by decide)
    have h2 := hck 1
    have hs1 : (pSend r q e c 1 1).1 (eI e c 0) = nI 1 := (pSend_e he eI_ge).trans hs
    generalize pSend r q e c 1 1 = p at h1 h2 hs1 ⊢
    have h3 := h1.rowd (r' := sE (sE p.1 e c 6 (nI 0)) e c 2 (nI 30)) ((Tch.rfl'.sE (by decide) hc he).sE (by decide) hc he) (by rw [sE_11 he hc (by decide), sE_11 he hc (by decide)]) he hc ?_ ?_
    · rw [hid] at h3; exact h3
    · obtain ⟨s', o, tm, ag, lb, rm, wt, vl, bt, ⟨v0, v1, v2, v3, v4, v5, v6, v7, v8⟩, hn', b3, b4⟩ := h1.ej he hc
      unfold eV at v0 v1 v2 v3 v4 v5 v6 v7 v8
      have hT : Tch e c p.1 (sE (sE p.1 e c 6 (nI 0)) e c 2 (nI 30)) := (Tch.rfl'.sE (by decide) hc he).sE (by decide) hc he
      have hs' : s' = 1 := (nI_eq (by unfold En at hn'; omega) (by decide)).mp (v0.symm.trans hs1)
      refine ⟨s', o, 30, ag, lb, rm, 0, vl, bt, ?_, ?_, ?_, ?_⟩
      · simp only [EV, eV, ev1, Nat.reduceLT, Nat.reduceEqDiff, if_true, if_false, v0, v1, v3, v4, v5, v7, v8, Nat.zero_ne_one, Nat.one_ne_zero, and_self]
      · unfold En at hn' ⊢; omega
      · rw [hT.ci (by omega)]; exact b3
      · rw [hT.ci (by omega)]; exact b4
    · rw [h2, chk_0]
      right
      simp only [ev1, Nat.reduceLT, Nat.reduceEqDiff, if_true, if_false]
      decide
  · have h1 := hsend 0 (by decide)
    have h2 := hck 0
    have hR2 : Rm (pSend r q e c 1 0).1 1 := hr.send (by decide) he
    have hs1 : (pSend r q e c 1 0).1 (eI e c 0) = nI 1 := (pSend_e he eI_ge).trans hs
    generalize pSend r q e c 1 0 = p at h1 h2 hs1 hR2 ⊢
    obtain ⟨n', hn', h9⟩ : ∃ n', n' < N ∧ p.1 (eI e c 1) = nI n' := by
      obtain ⟨s', o, tm, ag, lb, rm, wt, vl, bt, ⟨v0, v1, -⟩, hn', b3, b4⟩ := h1.ej he hc
      unfold eV at v0 v1
      have hs' : s' = 1 := (nI_eq (by unfold En at hn'; omega) (by decide)).mp (v0.symm.trans hs1)
      have ho : 1 ≤ o ∧ o ≤ N := by unfold En at hn'; omega
      refine ⟨o - 1, by omega, ?_⟩
      rw [v1]
      unfold oI
      rw [if_neg (by omega)]
    have h3 := h1.rowd (r' := pIdle p.1 e c) (Tch.idle Tch.rfl' he hc) ?_ he hc ((h1.idle he hc).ej he hc) ?_
    · rw [hid] at h3
      rw [h9, clampN (show n' < 2147483648 by omega)]
      exact h3.try hn' hA (hR2.idle he hc)
    · unfold pIdle
      rw [sE_11 he hc (by decide), sE_11 he hc (by decide), sE_11 he hc (by decide), sE_11 he hc (by decide), sE_11 he hc (by decide)]
    · rw [h2, chk_0]
      left
      simp only [pIdle, ev1, Nat.reduceLT, Nat.reduceEqDiff, if_true, if_false, Nat.zero_ne_one, Nat.one_ne_zero, n0_1, not_false_iff]
/-- a timer is set -/
theorem JG.tmr (hJ : JG X β T A h hb N t D r q) (he : e < 2) (hc : c < 12) (hs : r (eI e c 0) = nI 6 ∨ r (eI e c 0) = nI 7) (ha : 10 ≤ a ∧ a ≤ 60) : JG X β T A h hb N t D (sE r e c 2 (nI a)) q := by
  refine hJ.row (Tch.rfl'.sE (by decide) hc he) (sE_11 he hc (by decide)) he hc ?_ ?_
  · obtain ⟨s', o, tm, ag, lb, rm, wt, vl, bt, ⟨v0, v1, v2, v3, v4, v5, v6, v7, v8⟩, hn', b3, b4⟩ := hJ.ej he hc
    unfold eV at v0 v1 v2 v3 v4 v5 v6 v7 v8
    have hs' : s' = 6 ∨ s' = 7 := by
      rw [v0] at hs
      have h8 : s' < 8 := hn'.1.1
      rcases hs with hs | hs
      · exact Or.inl ((nI_eq (by omega) (by decide)).mp hs)
      · exact Or.inr ((nI_eq (by omega) (by decide)).mp hs)
    refine ⟨s', o, a, ag, lb, rm, wt, vl, bt, ?_, ?_, fun h9 => by omega, fun h9 => by omega⟩
    · simp only [EV, eV, ev1, Nat.reduceLT, Nat.reduceEqDiff, if_true, if_false, v0, v1, v3, v4, v5, v6, v7, v8, Nat.zero_ne_one, Nat.one_ne_zero, and_self]
    · unfold En at hn' ⊢; omega
  · rw [chk_0]
    · exact Nat.zero_le _
    · left
      rw [ev1 (by decide) (by decide), if_neg (by decide)]
      rcases hs with hs | hs <;> rw [hs] <;> decide
theorem JG.agn (hJ : JG X β T A h hb N t D r q) (he : e < 2) (hc : c < 12) (hs : r (eI e c 0) = nI 6) (h3 : r (eI e c 3) < nI 2) (hA : A.1 < t + D) (ht : ∀ v, tgOK h hb ((t + D, e, c, 6, v, 0), tg)) (hr : Rm r 1) : JG X (ad β (slot tg) 1) T A h hb N t D (pAg r q e c).1 (pAg r q e c).2 := by
  obtain ⟨s', o, tm, ag, lb, rm, wt, vl, bt, ⟨v0, v1, v2, v3, v4, v5, v6, v7, v8⟩, hn', b3, b4⟩ := hJ.ej he hc
  unfold eV at v0 v1 v2 v3 v4 v5 v6 v7 v8
  have hs' : s' = 6 := by
    rw [v0] at hs
    exact (nI_eq (by have := hn'.1.1; omega) (by decide)).mp hs
  have ha : ag < 2 := by
    rw [v3] at h3
    exact (nI_ltI (by have := hn'.1.2.2.2.1; omega) (by decide)).mp h3
  have hv : vl < 8 := hn'.1.2.2.2.2.2.2.2.1
  have h1 : JG X β T A h hb N t D (sE r e c 3 (nI (ag + 1))) q := by
    refine hJ.row (Tch.rfl'.sE (by decide) hc he) (sE_11 he hc (by decide)) he hc ?_ ?_
    · refine ⟨s', o, tm, ag + 1, lb, rm, wt, vl, bt, ?_, ?_, fun h9 => by omega, fun h9 => by omega⟩
      · simp only [EV, eV, ev1, Nat.reduceLT, Nat.reduceEqDiff, if_true, if_false, v0, v1, v2, v4, v5, v6, v7, v8, Nat.zero_ne_one, Nat.one_ne_zero, and_self]
      · unfold En at hn' ⊢; omega
    · rw [chk_0]
      · exact Nat.zero_le _
      · left
        rw [ev1 (by decide) (by decide), if_neg (by decide), hs]; decide
  have hR3 : Rm (sE r e c 3 (nI (ag + 1))) 1 := hr.sE he hc (by decide)
  have hs3 : sE r e c 3 (nI (ag + 1)) (eI e c 0) = nI 6 := by rw [ev1 (by decide) (by decide), if_neg (by decide)]; exact hs
  unfold pAg
  rw [v7, v3, nI_add, clampN (show vl < 2147483648 by omega)]
  have h2 := JG.send h1 he hc (show 6 < 14 by decide) hv hA (show 0 < 40 by decide) (fun h9 => absurd h9 (by decide)) (fun _ => rfl) (ht vl) hR3
  exact h2.tmr he hc (Or.inl ((pSend_e he eI_ge).trans hs3)) (show 10 ≤ 10 ∧ 10 ≤ 60 by decide)
/-- a timer is over, and it is no check's -/
theorem JG.ov1 (hJ : JG X (u1 (std B) (slot (1, 12 * e + c, t)) 0) T A h hb N t D r q) (he : e < 2) (hc : c < 12) (hx : h (12 * e + c) = t) (hck : ¬ (r (eI e c 0) = nI 1 ∧ r (eI e c 6) = nI 1)) (hA : A.1 < t + D) (hr : Rm r 1) : JG X (std B) T A h hb N t D (pOv1 r q e c).1 (pOv1 r q e c).2 := by
  have hD := hJ.2.1.2.2.2.2
  have hxx : 12 * e + c < 24 := by omega
  obtain ⟨s0, s2⟩ := slot1_v (B := B) (t := t) hxx
  have tg6 : ∀ v, tgOK h hb ((t + D, e, c, 6, v, 0), (1, 12 * e + c, t)) := fun v => tg_new1 hxx hx (Or.inl rfl) hD
  have tg12 : tgOK h hb ((t + D, e, c, 12, 0, 0), (1, 12 * e + c, t)) := tg_new1 hxx hx (Or.inr rfl) hD
  have hrel : ∀ v, v < 8 → JG X (std B) T A h hb N t D (pRel r q e c v).1 (pRel r q e c v).2 := fun v hv => (JG.rel hJ he hc hv hA (tg6 v) hr).mono (std_back s0 (by omega))
  have w12 : wgt X ((t + D, e, c, 12, 0, 0), (1, 12 * e + c, t)) = 2 := rfl
  unfold pOv1
  split
  · rename_i h1
    split
    · rename_i h2; exact absurd ⟨h1, h2⟩ hck
    · exact hrel 1 (by decide)
  · split
    · exact hrel 3 (by decide)
    · split
      · rename_i h6
        split
        · rename_i h3
          exact (JG.agn hJ he hc h6 h3 hA tg6 hr).mono (std_back s0 (by omega))
        · have := JG.rst hJ he hc hA tg12 hr
          rw [w12] at this
          exact this.mono (std_back s0 (by omega))
      · split
        · rename_i h7
          have h2 := JG.send hJ he hc (show 12 < 14 by decide) (show 0 < 8 by decide) hA (show 0 < 40 by decide) (fun h9 => absurd h9 (by decide)) (fun _ => rfl) tg12 hr
          rw [w12] at h2
          exact (h2.tmr he hc (Or.inr ((pSend_e he eI_ge).trans h7)) (show 10 ≤ 20 ∧ 20 ≤ 60 by decide)).mono (std_back s0 (by omega))
        · exact hrel 1 (by decide)
theorem nI_le0 (hn : n < 2147483648) : (nI n ≤ nI 0) = (n = 0) := by
  rw [nI_leI hn (by decide)]
  exact propext Nat.le_zero
/-- the timer of an end goes on -/
theorem JG.tm1 (hJ : JG X (std B) T A h hb N t D r q) (hB : B ≤ 12012) (he : e < 2) (hc : c < 12) (hA : A = (t, 0)) (hT : T (12 * e + c) + 1 = t) : ∃ h', (∀ y, ¬ y = 12 * e + c → h' y = h y) ∧ JG X (std B) (u1 T (12 * e + c) t) A h' hb N t D (pTm1 r q e c).1 (pTm1 r q e c).2 := by
  have hD := hJ.2.1.2.2.2.1
  have hxx : 12 * e + c < 24 := by omega
  have hAt : A.1 < t + D := by rw [hA]; show t < t + D; omega
  have hr : Rm r 2 := (hJ.cap (std_cap hB)).mono rfl (by decide)
  obtain ⟨s', o, tm, ag, lb, rm, wt, vl, bt, ⟨v0, v1, v2, v3, v4, v5, v6, v7, v8⟩, hn', b3, b4⟩ := hJ.ej he hc
  unfold eV at v0 v1 v2 v3 v4 v5 v6 v7 v8
  have htm : tm ≤ 60 := hn'.1.2.2.1
  have hT' : ∀ y, ¬ y = 12 * e + c → ¬ y = 24 + (12 * e + c) → u1 T (12 * e + c) t y = T y ∧ h y = h y ∧ hb y = hb y := fun y hy _ => ⟨u1_n hy, rfl, rfl⟩
  have hTb : u1 T (12 * e + c) t (24 + (12 * e + c)) = T (24 + (12 * e + c)) := u1_n (by omega)
  unfold pTm1
  simp only [v2, nI_le0 (show tm < 2147483648 by omega)]
  by_cases h0 : tm = 0
  · rw [if_pos h0]
    refine ⟨h, fun _ _ => rfl, hJ.clock (T' := u1 T (12 * e + c) t) Tch.rfl' rfl he hc hT' (fun _ => Nat.le_refl _) (fun _ => Nat.le_refl _) ⟨s', o, tm, ag, lb, rm, wt, vl, bt, ⟨v0, v1, v2, v3, v4, v5, v6, v7, v8⟩, ?_, b3, b4⟩ (Nat.le_refl _)⟩
    rw [u1_s, hTb]
    unfold En at hn' ⊢; omega
  · rw [if_neg h0, pk_sub (by omega)]
    have hTc : Tch e c r (sE r e c 2 (nI (tm - 1))) := Tch.rfl'.sE (by decide) hc he
    have h11 : sE r e c 2 (nI (tm - 1)) 11 = r 11 := sE_11 he hc (by decide)
    have hck : chk (sE r e c 2 (nI (tm - 1))) e c ≤ chk r e c := Nat.le_of_eq (by
      unfold chk
      rw [sE_w (by decide) (by decide) (by decide), sE_w (by decide) (by decide) (by decide)])
    have hEV : EV (eV (sE r e c 2 (nI (tm - 1))) e c) s' o (tm - 1) ag lb rm wt vl bt := by
      simp only [EV, eV, ev1, Nat.reduceLT, Nat.reduceEqDiff, if_true, if_false, v0, v1, v3, v4, v5, v6, v7, v8, Nat.zero_ne_one, Nat.one_ne_zero, and_self]
    have b3' : s' = 1 → sE r e c 2 (nI (tm - 1)) (cI (o - 1) 0) = nI e := by rw [hTc.ci (by omega)]; exact b3
    have b4' : s' = 2 → sE r e c 2 (nI (tm - 1)) (cI (o - 1) 0) = nI (1 - e) := by rw [hTc.ci (by omega)]; exact b4
    by_cases h1 : tm - 1 = 0
    · rw [h1, if_pos rfl]
      rw [h1] at hTc h11 hck hEV b3' b4'
      unfold pOv
      have hR0 : Rm (inc (sE r e c 2 (nI 0)) 9) 2 := (hr.sE he hc (by decide)).mono (u1_n (by decide)) (Nat.le_refl 2)
      have f0 : ∀ {w}, w < 9 → ¬ w = 2 → inc (sE r e c 2 (nI 0)) 9 (eI e c w) = r (eI e c w) := fun {w} hw hw2 => by
        unfold inc
        rw [u1_n (by have := eI_ge (e := e) (c := c) (w := w); omega), ev1 (by decide) hw, if_neg hw2]
      by_cases hk : s' = 1 ∧ wt = 1
      · have h2 := (hJ.clock (T' := u1 T (12 * e + c) t) (h' := h) (hb' := hb) hTc h11 he hc hT' (fun _ => Nat.le_refl _) (fun _ => Nat.le_refl _) ⟨s', o, 0, ag, lb, rm, wt, vl, bt, hEV, by rw [u1_s, hTb]; unfold En at hn' ⊢; omega, b3', b4'⟩ hck).lo (x := 9) (z := sE r e c 2 (nI 0) 9 + nI 1) (by decide)
        rw [inc_f] at h2
        refine ⟨h, fun _ _ => rfl, ?_⟩
        have e0 : inc (sE r e c 2 (nI 0)) 9 (eI e c 0) = nI 1 := by rw [f0 (by decide) (by decide), v0, hk.1]
        have e6 : inc (sE r e c 2 (nI 0)) 9 (eI e c 6) = nI 1 := by rw [f0 (by decide) (by decide), v6, hk.2]
        unfold pOv1
        rw [if_pos e0, if_pos e6]
        exact h2.chk_ he hc e0 e6 hAt hR0
      · have hh : h (12 * e + c) + 10 ≤ t := by unfold En at hn'; omega
        have h2 := hJ.free (slot1_v (B := B) (t := t) hxx).1 (fun g g1 g2 _ => slot1 hxx g1 hh (by rw [hA] at g2; exact g2 rfl))
        have h3 := (h2.clock (T' := u1 T (12 * e + c) t) (h' := u1 h (12 * e + c) t) (hb' := hb) hTc h11 he hc (fun y hy _ => ⟨u1_n hy, u1_n hy, rfl⟩) (fun y => by
          by_cases hy : y = 12 * e + c
          · rw [hy, u1_s]; omega
          · rw [u1_n hy]; exact Nat.le_refl _) (fun _ => Nat.le_refl _) ⟨s', o, 0, ag, lb, rm, wt, vl, bt, hEV, by rw [u1_s, u1_s, hTb]; unfold En at hn' ⊢; omega, b3', b4'⟩ hck).lo (x := 9) (z := sE r e c 2 (nI 0) 9 + nI 1) (by decide)
        rw [inc_f] at h3
        refine ⟨u1 h (12 * e + c) t, fun y hy => u1_n hy, h3.ov1 he hc u1_s (fun h9 => hk ⟨?_, ?_⟩) hAt (hR0.mono rfl (by decide))⟩
        · have h8 := h9.1
          rw [f0 (by decide) (by decide), v0] at h8
          exact (nI_eq (by have := hn'.1.1; omega) (by decide)).mp h8
        · have h8 := h9.2
          rw [f0 (by decide) (by decide), v6] at h8
          exact (nI_eq (by have := hn'.1.2.2.2.2.2.2.1; omega) (by decide)).mp h8
    · rw [if_neg (fun h9 => h1 ((nI_eq (by omega) (by decide)).mp h9))]
      exact ⟨h, fun _ _ => rfl, hJ.clock (T' := u1 T (12 * e + c) t) hTc h11 he hc hT' (fun _ => Nat.le_refl _) (fun _ => Nat.le_refl _) ⟨s', o, tm - 1, ag, lb, rm, wt, vl, bt, hEV, by rw [u1_s, hTb]; unfold En at hn' ⊢; omega, b3', b4'⟩ hck⟩
/-- the timer of blocking of an end goes on -/
theorem JG.tm2 (hJ : JG X (std B) T A h hb N t D r q) (hB : B ≤ 12012) (he : e < 2) (hc : c < 12) (hA : A = (t, 0)) (hT : T (24 + (12 * e + c)) + 1 = t) : ∃ hb', (∀ y, ¬ y = 12 * e + c → hb' y = hb y) ∧ JG X (std B) (u1 T (24 + (12 * e + c)) t) A h hb' N t D (pTm2 r q e c).1 (pTm2 r q e c).2 := by
  have hD := hJ.2.1.2.2.2
  have hxx : 12 * e + c < 24 := by omega
  have hAt : A.1 < t + D := by rw [hA]; show t < t + D; omega
  have hr : Rm r 1 := (hJ.cap (std_cap hB)).mono rfl (by decide)
  obtain ⟨s', o, tm, ag, lb, rm, wt, vl, bt, ⟨v0, v1, v2, v3, v4, v5, v6, v7, v8⟩, hn', b3, b4⟩ := hJ.ej he hc
  unfold eV at v0 v1 v2 v3 v4 v5 v6 v7 v8
  have hT' : ∀ y, ¬ y = 12 * e + c → ¬ y = 24 + (12 * e + c) → u1 T (24 + (12 * e + c)) t y = T y ∧ h y = h y ∧ hb y = hb y := fun y _ hy => ⟨u1_n hy, rfl, rfl⟩
  have hTa : u1 T (24 + (12 * e + c)) t (12 * e + c) = T (12 * e + c) := u1_n (by omega)
  have hlb : lb < 4 := hn'.1.2.2.2.2.1
  have l1 : (nI lb = nI 1) = (lb = 1) := propext (nI_eq (by omega) (by decide))
  have l3 : (nI lb = nI 3) = (lb = 3) := propext (nI_eq (by omega) (by decide))
  have hbt : bt ≤ 10 := hn'.1.2.2.2.2.2.2.2.2
  unfold pTm2
  simp only [v4, v8, l1, l3]
  by_cases hl : lb = 1 ∨ lb = 3
  · rw [if_pos hl]
    have hb1 : 1 ≤ bt := by unfold En at hn'; omega
    rw [pk_sub hb1]
    have hTc : ∀ a, Tch e c r (sE r e c 8 (nI a)) := fun _ => Tch.rfl'.sE (by decide) hc he
    have h11 : ∀ a, sE r e c 8 (nI a) 11 = r 11 := fun _ => sE_11 he hc (by decide)
    have hck : ∀ a, chk (sE r e c 8 (nI a)) e c ≤ chk r e c := fun a => Nat.le_of_eq (by
      unfold chk
      rw [sE_w (by decide) (by decide) (by decide), sE_w (by decide) (by decide) (by decide)])
    have hEV : ∀ a, EV (eV (sE r e c 8 (nI a)) e c) s' o tm ag lb rm wt vl a := fun a => by
      simp only [EV, eV, ev1, Nat.reduceLT, Nat.reduceEqDiff, if_true, if_false, v0, v1, v2, v3, v4, v5, v6, v7, Nat.zero_ne_one, Nat.one_ne_zero, and_self]
    have b3' : ∀ a, s' = 1 → sE r e c 8 (nI a) (cI (o - 1) 0) = nI e := fun a => by rw [(hTc a).ci (by omega)]; exact b3
    have b4' : ∀ a, s' = 2 → sE r e c 8 (nI a) (cI (o - 1) 0) = nI (1 - e) := fun a => by rw [(hTc a).ci (by omega)]; exact b4
    by_cases h1 : bt - 1 = 0
    · rw [h1, if_pos rfl]
      have hh : hb (12 * e + c) + 10 ≤ t := by unfold En at hn'; omega
      have h2 := hJ.free (slot2_v (B := B) (t := t) hxx).1 (fun g g1 g2 _ => slot2 hxx g1 hh (by rw [hA] at g2; exact g2 rfl))
      have hk8 : ∃ k, (k = 8 ∨ k = 10) ∧ (if lb = 1 then 8 else 10) = k := ⟨_, by split <;> omega, rfl⟩
      obtain ⟨k, hk, hk'⟩ := hk8
      rw [hk']
      rw [pSend_sE (by omega) he hc (by decide) he]
      show ∃ hb', _ ∧ JG X (std B) _ A h hb' N t D (sE (sE (pSend r q e c k 0).1 e c 8 (nI 0)) e c 8 (nI 10)) (pSend r q e c k 0).2
      have hss : ∀ {r0 : Nat → Int32} {a b : Int32}, sE (sE r0 e c 8 a) e c 8 b = sE r0 e c 8 b := fun {r0 a b} => by
        unfold sE
        funext i
        unfold u1
        split <;> rfl
      have e1 := pSend_sE (r := r) (q := q) (v := 0) (z := nI 10) (show ¬ k = 0 by omega) he hc (show 8 < 9 by decide) he
      have e2 : sE (pSend r q e c k 0).1 e c 8 (nI 10) = (pSend (sE r e c 8 (nI 10)) q e c k 0).1 := by rw [e1]
      have e3 : (pSend r q e c k 0).2 = (pSend (sE r e c 8 (nI 10)) q e c k 0).2 := by rw [e1]
      rw [hss, e2, e3]
      have h3 := h2.clock (T' := u1 T (24 + (12 * e + c)) t) (h' := h) (hb' := u1 hb (12 * e + c) t) (hTc 10) (h11 10) he hc (fun y hy hy2 => ⟨u1_n hy2, rfl, u1_n hy⟩) (fun _ => Nat.le_refl _) (fun y => by
          by_cases hy : y = 12 * e + c
          · rw [hy, u1_s]; omega
          · rw [u1_n hy]; exact Nat.le_refl _) ⟨s', o, tm, ag, lb, rm, wt, vl, 10, hEV 10, by rw [u1_s, u1_s, hTa]; unfold En at hn' ⊢; omega, b3' 10, b4' 10⟩ (hck 10)
      have h4 := JG.send (tg := (2, 12 * e + c, t)) h3 he hc (show k < 14 by omega) (show 0 < 8 by decide) hAt (show 0 < 40 by decide) (fun h9 => by omega) (fun _ => rfl) (tg_new2 hxx u1_s hk (by omega)) (hr.sE he hc (by decide))
      have w1 : wgt X ((t + D, e, c, k, 0, 0), (2, 12 * e + c, t)) = 1 := by unfold wgt; rw [if_neg (show ¬ k = 12 by omega)]
      rw [w1] at h4
      obtain ⟨s0, s1⟩ := slot2_v (B := B) (t := t) hxx
      exact ⟨u1 hb (12 * e + c) t, fun y hy => u1_n hy, h4.mono (std_back s0 (by omega))⟩
    · rw [if_neg (fun h9 => h1 ((nI_eq (by omega) (by decide)).mp h9))]
      exact ⟨hb, fun _ _ => rfl, hJ.clock (T' := u1 T (24 + (12 * e + c)) t) (hTc _) (h11 _) he hc hT' (fun _ => Nat.le_refl _) (fun _ => Nat.le_refl _) ⟨s', o, tm, ag, lb, rm, wt, vl, bt - 1, hEV _, by rw [u1_s, hTa]; unfold En at hn' ⊢; omega, b3' _, b4' _⟩ (hck _)⟩
  · rw [if_neg hl]
    refine ⟨hb, fun _ _ => rfl, hJ.clock (T' := u1 T (24 + (12 * e + c)) t) Tch.rfl' rfl he hc hT' (fun _ => Nat.le_refl _) (fun _ => Nat.le_refl _) ⟨s', o, tm, ag, lb, rm, wt, vl, bt, ⟨v0, v1, v2, v3, v4, v5, v6, v7, v8⟩, ?_, b3, b4⟩ (Nat.le_refl _)⟩
    rw [u1_s, hTa]
    unfold En at hn' ⊢; omega
/-- both timers of an end go on -/
theorem JG.tm (hJ : JG X (std B) T A h hb N t D r q) (hB : B ≤ 12012) (he : e < 2) (hc : c < 12) (hA : A = (t, 0)) (hT : T (12 * e + c) + 1 = t) (hTb : T (24 + (12 * e + c)) + 1 = t) : Rm (pTm1 r q e c).1 1 ∧ ∃ h' hb', JG X (std B) (u1 (u1 T (12 * e + c) t) (24 + (12 * e + c)) t) A h' hb' N t D (pTm r q e c).1 (pTm r q e c).2 := by
  obtain ⟨h', -, h1⟩ := hJ.tm1 hB he hc hA hT
  obtain ⟨hb', -, h2⟩ := h1.tm2 hB he hc hA (by rw [u1_n (by omega)]; exact hTb)
  exact ⟨(h1.cap (std_cap hB)).mono rfl (by decide), h', hb', h2⟩
end CAP5
