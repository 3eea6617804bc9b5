/-! how many messages there can be: a message is received -/
section CAP4
variable {X : Nat → Nat → Nat} {β β' T h hb : Nat → Nat} {A : Nat × Nat} {N t D e c w w' k k' v v' n j x s a p : Nat} {r r' r1 : Nat → Int32} {q q' : Nat → Int64} {z z1 : Int32} {G : Nat → GM} {tg : Tg} {m : Ms} {g : GM}
theorem tg_resp (ht : tgOK h hb g) (ha : g.1.1 = t) (hlt : ∀ x, x < 24 → h x < t ∧ hb x < t) (hD : D ≤ 20) (hk : (g.1.2.2.2.1 = 0 ∧ k' = 6) ∨ (g.1.2.2.2.1 = 6 ∧ k' = 7) ∨ (g.1.2.2.2.1 = 12 ∧ (k' = 13 ∨ k' = 8)) ∨ (g.1.2.2.2.1 = 8 ∧ k' = 9) ∨ (g.1.2.2.2.1 = 10 ∧ k' = 11)) : tgOK h hb ((t + D, e, c, k', v, x), g.2) := by
  rcases ht with h1 | ⟨h1, h2, h3, h4⟩ | ⟨h1, h2, h3, h4⟩
  · exact Or.inl h1
  · have h5 := (hlt _ h2).1
    refine Or.inr (Or.inl ⟨h1, h2, h3, ?_⟩)
    show t + D ≤ g.2.2.2 + life 1 k'
    rw [ha] at h4
    unfold life at h4 ⊢
    rw [if_pos rfl] at h4 ⊢
    rcases hk with ⟨b1, b2⟩ | ⟨b1, b2⟩ | ⟨b1, b2 | b2⟩ | ⟨b1, b2⟩ | ⟨b1, b2⟩ <;> subst b2 <;> rw [b1] at h4 <;> simp at h4 ⊢ <;> omega
  · have h5 := (hlt _ h2).2
    refine Or.inr (Or.inr ⟨h1, h2, h3, ?_⟩)
    show t + D ≤ g.2.2.2 + life 2 k'
    rw [ha] at h4
    unfold life at h4 ⊢
    rcases hk with ⟨b1, b2⟩ | ⟨b1, b2⟩ | ⟨b1, b2 | b2⟩ | ⟨b1, b2⟩ | ⟨b1, b2⟩ <;> subst b2 <;> rw [b1] at h4 <;> simp at h4 ⊢ <;> omega
theorem pSend_sE (hk : ¬ k = 0) (he : e < 2) (hc : c < 12) (hw : w < 9) (he' : e < 2) : pSend (sE r e c w z) q e c k v = (sE (pSend r q e c k v).1 e c w z, (pSend r q e c k v).2) := by
  have lo : ∀ {j}, j < 24 → sE r e c w z j = r j := fun hj => sE_n (Or.inl hj) he hc hw
  have hge := eI_ge (e := e) (c := c) (w := w)
  have hm : mMsg (sE r e c w z) e c k v = mMsg r e c k v := by
    unfold mMsg
    rw [if_neg hk, if_neg hk, lo (by decide), lo (by decide)]
  have hin : ∀ {j} {r0 : Nat → Int32}, j < 24 → inc (sE r0 e c w z) j = sE (inc r0 j) e c w z := fun {j r0} hj => by
    unfold inc sE
    rw [u1_n (by omega), u1_u1 (by omega)]
  have hde : ∀ {j} {r0 : Nat → Int32}, j < 24 → dec (sE r0 e c w z) j = sE (dec r0 j) e c w z := fun {j r0} hj => by
    unfold dec sE
    rw [u1_n (by omega), u1_u1 (by omega)]
  unfold pSend mSends nM
  rw [lo (show 3 + e < 24 by omega), lo (show 11 < 24 by decide), lo (show 2 < 24 by decide), lo (show 1 < 24 by decide), hm]
  split
  · rw [hin (by decide), hde (by omega), hin (by decide)]
  · rw [hin (by decide), hin (by decide)]
theorem pOwn_m1 (h1 : r (eI e c 1) = -1) : pOwn r e c = -1 := by
  unfold pOwn
  rw [if_neg (fun h9 => h9.1 h1)]
theorem pEndO_m1 : pEndO r (-1) z = r := by unfold pEndO; rw [if_pos rfl]
/-- an end is seized -/
theorem JG.incm (hJ : JG X β T A h hb N t D r q) (he : e < 2) (hc : c < 12) (hv : v < 2) (hn : n < N) (ho : r (cI n 0) = nI (1 - e)) (hs : ¬ r (eI e c 0) = nI 6) (ht : Tch e c r r') (h11 : r' 11 = r 11) (hv' : ∀ w, w < 9 → ¬ w = 1 → r' (eI e c w) = r (eI e c w)) : JG X β T A h hb N t D (sE (sE (sE (sE r' e c 0 (nI 2)) e c 1 (nI n)) e c 2 (if v = 1 then nI 15 else nI 0)) e c 6 (nI v)) q := by
  have hT : Tch e c r (sE (sE (sE (sE r' e c 0 (nI 2)) e c 1 (nI n)) e c 2 (if v = 1 then nI 15 else nI 0)) e c 6 (nI v)) := (((ht.sE (by decide) hc he).sE (by decide) hc he).sE (by decide) hc he).sE (by decide) hc he
  refine hJ.row hT ?_ he hc ?_ ?_
  · rw [sE_11 he hc (by decide), sE_11 he hc (by decide), sE_11 he hc (by decide), sE_11 he hc (by decide), h11]
  · obtain ⟨s', o, tm, ag, lb, rm, wt, vl, bt, ⟨v0, v1, v2, v3, v4, v5, v6, v7, v8⟩, hn', -, -⟩ := hJ.ej he hc
    unfold eV at v0 v1 v2 v3 v4 v5 v6 v7 v8
    have hs6 : ¬ s' = 6 := fun h9 => hs (by rw [v0, h9])
    have hag : ag = 0 := by unfold En at hn'; omega
    rw [hag] at v3
    refine ⟨2, n + 1, (if v = 1 then 15 else 0), 0, lb, rm, v, vl, bt, ?_, ?_, fun h9 => absurd h9 (by decide), fun _ => ?_⟩
    · simp only [EV, eV, ev1, hv' 3 (by decide) (by decide), hv' 4 (by decide) (by decide), hv' 5 (by decide) (by decide), hv' 7 (by decide) (by decide), hv' 8 (by decide) (by decide), Nat.reduceLT, Nat.reduceEqDiff, if_true, if_false, oI_s, v3, v4, v5, v7, v8, Nat.zero_ne_one, Nat.one_ne_zero, and_self, and_true, true_and]
      split <;> rfl
    · unfold En at hn' ⊢
      by_cases hv1 : v = 1
      · rw [if_pos hv1]; omega
      · rw [if_neg hv1]; omega
    · rw [Nat.add_sub_cancel, hT.ci (by omega)]; exact ho
  · rw [chk_0 (r := sE (sE (sE (sE r' e c 0 (nI 2)) e c 1 (nI n)) e c 2 (if v = 1 then nI 15 else nI 0)) e c 6 (nI v))]
    · exact Nat.zero_le _
    · left
      simp only [ev1, Nat.reduceLT, Nat.reduceEqDiff, if_true, if_false, Nat.zero_ne_one, Nat.one_ne_zero]
      decide
theorem JG.mono1 (hJ : JG X β T A h hb N t D r q) : JG X (ad β s a) T A h hb N t D r q := hJ.mono (fun i => by
  unfold ad
  by_cases h9 : i = s
  · subst h9; rw [u1_s]; omega
  · rw [u1_n h9]; exact Nat.le_refl _)
/-- the first part of being seized; r1: the call of a glare is taken off -/
theorem JG.sz2 (hJ : JG X β T A h hb N t D r q) (he : e < 2) (hc : c < 12) (hv : v < 2) (hn : n < N) (ho : r (cI n 0) = nI (1 - e)) (hs : ¬ r (eI e c 0) = nI 6) (hA : A.1 < t + D) (ht : tgOK h hb ((t + D, e, c, 6, 4, 0), tg)) (hr : Rm r 1) (hr1 : r1 = r ∨ r1 = sE r e c 1 (-1)) : JG X (ad β (slot tg) 1) T A h hb N t D (pSz2 r1 q e c v n).1 (pSz2 r1 q e c v n).2 := by
  have hw : wgt X ((t + D, e, c, 6, 4, 0), tg) = 1 := rfl
  unfold pSz2
  split
  · unfold pRel
    have o1 : pOwn (sE (pEndO r1 (pOwn r1 e c) (nI 6)) e c 1 (-1)) e c = -1 := pOwn_m1 sE_s
    rw [o1, pEndO_m1, pSend_sE (by decide) he hc (by decide) he]
    rcases hr1 with rfl | rfl
    · have h1 := JG.pendO (z := pOwn r1 e c) (z1 := nI 6) hJ
      have h2 := JG.send h1 he hc (show 6 < 14 by decide) (show 4 < 8 by decide) hA (show 0 < 40 by decide) (fun h9 => absurd h9 (by decide)) (fun _ => rfl) ht hr.pendO
      rw [hw] at h2
      dsimp only
      refine JG.aw h2 (s := 6) (a := 10) he hc (Or.inl rfl) (by decide) (((Tch.rfl'.sE (by decide) hc he).sE (by decide) hc he).sE (by decide) hc he) (by rw [sE_11 he hc (by decide), sE_11 he hc (by decide), sE_11 he hc (by decide)]) ?_ ⟨4, by decide, ?_⟩ ?_
      all_goals simp only [ev1, Nat.reduceLT, Nat.reduceEqDiff, if_true, if_false, and_self]
    · have o2 : pOwn (sE r e c 1 (-1)) e c = -1 := pOwn_m1 sE_s
      rw [o2, pEndO_m1, pSend_sE (by decide) he hc (by decide) he]
      have h2 := JG.send hJ he hc (show 6 < 14 by decide) (show 4 < 8 by decide) hA (show 0 < 40 by decide) (fun h9 => absurd h9 (by decide)) (fun _ => rfl) ht hr
      rw [hw] at h2
      dsimp only
      refine JG.aw h2 (s := 6) (a := 10) he hc (Or.inl rfl) (by decide) ((((Tch.rfl'.sE (by decide) hc he).sE (by decide) hc he).sE (by decide) hc he).sE (by decide) hc he) (by rw [sE_11 he hc (by decide), sE_11 he hc (by decide), sE_11 he hc (by decide), sE_11 he hc (by decide)]) ?_ ⟨4, by decide, ?_⟩ ?_
      all_goals simp only [ev1, Nat.reduceLT, Nat.reduceEqDiff, if_true, if_false, and_self]
  · refine JG.mono1 ?_
    rcases hr1 with rfl | rfl
    · refine JG.incm (r := r1) hJ he hc hv hn ho hs Tch.rfl'.pendO (pEndO_n (by decide)) (fun w hw _ => pEndO_n (eI_lt he hc hw))
    · have o2 : pOwn (sE r e c 1 (-1)) e c = -1 := pOwn_m1 sE_s
      rw [o2, pEndO_m1]
      refine JG.incm hJ he hc hv hn ho hs (Tch.rfl'.sE (by decide) hc he) (sE_11 he hc (by decide)) (fun w hw h1 => by rw [ev1 (by decide) hw, if_neg h1])
theorem EJ.own (hE : EJ X T h hb N r e c) (hN : N ≤ 40) : r (eI e c 1) = -1 ∨ ∃ n, n < N ∧ r (eI e c 1) = nI n := by
  obtain ⟨s, o, tm, ag, lb, rm, wt, vl, bt, ⟨-, v1, -⟩, hn, -, -⟩ := hE
  unfold eV at v1
  rw [v1]
  cases o with
  | zero => exact Or.inl rfl
  | succ o => exact Or.inr ⟨o, by unfold En at hn; omega, rfl⟩
theorem Rm.sz2' {x : Nat} (h : Rm r (x + 1)) (he : e < 2) (hc : c < 12) : Rm (pSz2 r q e c v n).1 x := h.sz2 he hc
theorem JG.sz (hJ : JG X β T A h hb N t D r q) (he : e < 2) (hc : c < 12) (hv : v < 2) (hn : n < N) (ho : r (cI n 0) = nI (1 - e)) (hA : A.1 < t + D) (ht : tgOK h hb ((t + D, e, c, 6, 4, 0), tg)) (hr : Rm r 2) : JG X (ad β (slot tg) 1) T A h hb N t D (pSz r q e c v n).1 (pSz r q e c v n).2 := by
  have hN : N ≤ 40 := hJ.1.2.1.2
  unfold pSz
  split
  · rename_i hs
    have h8 := hJ.lo (x := 8) (z := r 8 + nI 1) (by omega)
    rw [inc_f] at h8
    have hR8 : Rm (inc r 8) 2 := hr.mono (u1_n (by decide)) (Nat.le_refl 2)
    have v8 : ∀ {w}, w < 9 → inc r 8 (eI e c w) = r (eI e c w) := fun hw => u1_n (by have := eI_ge (e := e) (c := c) (w := ‹Nat›); omega)
    have c8 : inc r 8 (cI n 0) = r (cI n 0) := u1_n (by have := cI_ge (n := n) (w := 0); omega)
    split
    · exact h8.mono1
    · have hs6 : ¬ inc r 8 (eI e c 0) = nI 6 := by rw [v8 (by decide), hs]; decide
      have h9 := JG.sz2 (r1 := sE (inc r 8) e c 1 (-1)) (v := v) (n := n) (tg := tg) h8 he hc hv hn (c8.trans ho) hs6 hA ht (hR8.mono rfl (by decide)) (Or.inr rfl)
      split
      · exact h9
      · rename_i hm
        rcases (hJ.ej he hc).own hN with h1 | ⟨n', hn', h1⟩
        · exact absurd h1 hm
        · rw [h1, clampN (show n' < 2147483648 by omega)]
          exact h9.try hn' hA ((hR8.sE he hc (by decide)).sz2 he hc)
  · split
    · exact hJ.mono1
    · rename_i hm
      exact JG.sz2 hJ he hc hv hn ho (fun h9 => hm (by rw [h9]; decide)) hA ht (hr.mono rfl (by decide)) (Or.inl rfl)
/-- an end goes on -/
theorem JG.go (hJ : JG X β T A h hb N t D r q) (he : e < 2) (hc : c < 12) (hs : s = 3 ∨ s = 4 ∨ s = 5) (ha : a ≤ 60 ∧ (s = 4 → a = 0) ∧ (a = 0 ∨ 10 ≤ a)) (hs6 : ¬ r (eI e c 0) = nI 6) : JG X β T A h hb N t D (pGo r e c (nI s) (nI a) n) q := by
  refine hJ.row ((((Tch.rfl'.sE (by decide) hc he).sE (by decide) hc he).sE (by decide) hc he).sC (by omega)) ?_ he hc ?_ ?_
  · unfold pGo
    rw [sC_n (by decide), sE_11 he hc (by decide), sE_11 he hc (by decide), sE_11 he hc (by decide)]
  · obtain ⟨s', o, tm, ag, lb, rm, wt, vl, bt, ⟨v0, v1, v2, v3, v4, v5, v6, v7, v8⟩, hn', -, -⟩ := hJ.ej he hc
    unfold eV at v0 v1 v2 v3 v4 v5 v6 v7 v8
    have hs6' : ¬ s' = 6 := fun h9 => hs6 (by rw [v0, h9])
    refine ⟨s, o, a, ag, lb, rm, 0, vl, bt, ?_, ?_, fun h9 => by omega, fun h9 => by omega⟩
    · simp only [EV, eV, pGo, sC_n (eI_lt he hc (show 0 < 9 by decide)), sC_n (eI_lt he hc (show 1 < 9 by decide)), sC_n (eI_lt he hc (show 2 < 9 by decide)), sC_n (eI_lt he hc (show 3 < 9 by decide)), sC_n (eI_lt he hc (show 4 < 9 by decide)), sC_n (eI_lt he hc (show 5 < 9 by decide)), sC_n (eI_lt he hc (show 6 < 9 by decide)), sC_n (eI_lt he hc (show 7 < 9 by decide)), sC_n (eI_lt he hc (show 8 < 9 by decide)), ev1, Nat.reduceLT, Nat.reduceEqDiff, if_true, if_false, v1, v3, v4, v5, v7, v8, Nat.zero_ne_one, Nat.one_ne_zero, and_self]
    · unfold En at hn' ⊢; omega
  · rw [chk_0 (r := pGo r e c (nI s) (nI a) n)]
    · exact Nat.zero_le _
    · left
      simp only [pGo, sC_n (eI_lt he hc (show 0 < 9 by decide)), ev1, Nat.reduceLT, Nat.reduceEqDiff, if_true, if_false]
      rw [st_dec (by omega)]; omega
theorem JG.ck (hJ : JG X β T A h hb N t D r q) (he : e < 2) (hc : c < 12) : JG X β T A h hb N t D (pCk r e c v) q := by
  unfold pCk
  split
  · rename_i hs
    split
    · refine hJ.row ((Tch.rfl'.sE (by decide) hc he).sE (by decide) hc he) ?_ he hc ?_ ?_
      · rw [sE_11 he hc (by decide), sE_11 he hc (by decide)]
      · obtain ⟨s', o, tm, ag, lb, rm, wt, vl, bt, ⟨v0, v1, v2, v3, v4, v5, v6, v7, v8⟩, hn', b3, b4⟩ := hJ.ej he hc
        unfold eV at v0 v1 v2 v3 v4 v5 v6 v7 v8
        have hT : Tch e c r (sE (sE r e c 6 (nI 0)) e c 2 (nI 0)) := (Tch.rfl'.sE (by decide) hc he).sE (by decide) hc he
        refine ⟨s', o, 0, ag, lb, rm, 0, vl, bt, ?_, ?_, ?_, ?_⟩
        · simp only [EV, eV, ev1, Nat.reduceLT, Nat.reduceEqDiff, if_true, if_false, v0, v1, v3, v4, v5, v7, v8, Nat.zero_ne_one, Nat.one_ne_zero, and_self]
        · unfold En at hn' ⊢; omega
        · rw [hT.ci (by omega)]; exact b3
        · rw [hT.ci (by omega)]; exact b4
      · rw [chk_0 (r := sE (sE r e c 6 (nI 0)) e c 2 (nI 0))]
        · exact Nat.zero_le _
        · right
          simp only [ev1, Nat.reduceLT, Nat.reduceEqDiff, if_true, if_false]
          decide
    · exact hJ.idle he hc
  · exact hJ
/-- an end's marks of blocking change -/
theorem JG.blk (hJ : JG X β T A h hb N t D r q) (he : e < 2) (hc : c < 12) (ht : Tch e c r r') (h11 : r' 11 = r 11) (hv' : ∀ w, w < 9 → ¬ (w = 4 ∨ w = 5 ∨ w = 8) → r' (eI e c w) = r (eI e c w)) (hb' : ∀ lb rm bt, r (eI e c 4) = nI lb → r (eI e c 5) = nI rm → r (eI e c 8) = nI bt → lb < 4 → rm < 2 → bt ≤ 10 → (lb = 1 ∨ lb = 3 → 1 ≤ bt ∧ hb (12 * e + c) + 10 ≤ T (24 + (12 * e + c)) + bt) → (lb = 1 ∨ lb = 2 → X e c = 1) → ∃ lb' rm' bt', r' (eI e c 4) = nI lb' ∧ r' (eI e c 5) = nI rm' ∧ r' (eI e c 8) = nI bt' ∧ lb' < 4 ∧ rm' < 2 ∧ bt' ≤ 10 ∧ (lb' = 1 ∨ lb' = 3 → 1 ≤ bt' ∧ hb (12 * e + c) + 10 ≤ T (24 + (12 * e + c)) + bt') ∧ (lb' = 1 ∨ lb' = 2 → X e c = 1)) : JG X β T A h hb N t D r' q := by
  refine hJ.row ht h11 he hc ?_ (Nat.le_of_eq ?_)
  · obtain ⟨s', o, tm, ag, lb, rm, wt, vl, bt, ⟨v0, v1, v2, v3, v4, v5, v6, v7, v8⟩, hn', b3, b4⟩ := hJ.ej he hc
    unfold eV at v0 v1 v2 v3 v4 v5 v6 v7 v8
    obtain ⟨lb', rm', bt', u4, u5, u8, u1, u2, u3, u6, u7⟩ := hb' lb rm bt v4 v5 v8 (by unfold En at hn'; omega) (by unfold En at hn'; omega) (by unfold En at hn'; omega) (by unfold En at hn'; omega) (by unfold En at hn'; omega)
    refine ⟨s', o, tm, ag, lb', rm', wt, vl, bt', ⟨(hv' 0 (by decide) (by decide)).trans v0, (hv' 1 (by decide) (by decide)).trans v1, (hv' 2 (by decide) (by decide)).trans v2, (hv' 3 (by decide) (by decide)).trans v3, u4, u5, (hv' 6 (by decide) (by decide)).trans v6, (hv' 7 (by decide) (by decide)).trans v7, u8⟩, ?_, ?_, ?_⟩
    · unfold En at hn' ⊢; omega
    · rw [ht.ci (by omega)]; exact b3
    · rw [ht.ci (by omega)]; exact b4
  · unfold chk
    rw [hv' 0 (by decide) (by decide), hv' 6 (by decide) (by decide)]
theorem JG.rmt (hJ : JG X β T A h hb N t D r q) (he : e < 2) (hc : c < 12) (ha : a < 2) : JG X β T A h hb N t D (sE r e c 5 (nI a)) q := hJ.blk he hc (Tch.rfl'.sE (by decide) hc he) (sE_11 he hc (by decide)) (fun w hw h9 => sE_w (by omega) (by decide) hw) (fun lb rm bt u4 u5 u8 u1 u2 u3 u6 u7 => ⟨lb, a, bt, by rw [ev1 (by decide) (by decide), if_neg (by decide)]; exact u4, sE_s, by rw [ev1 (by decide) (by decide), if_neg (by decide)]; exact u8, u1, ha, u3, u6, u7⟩)
theorem lbN {lb : Nat} (h : lb < 4) : (nI 1 ≤ nI lb ∧ nI lb ≤ nI 2) = (lb = 1 ∨ lb = 2) := by
  rw [nI_leI (by decide) (by omega), nI_leI (by omega) (by decide), eq_iff_iff]; omega
theorem JG.ir (hJ : JG X β T A h hb N t D r q) (he : e < 2) (hc : c < 12) (hA : A.1 < t + D) (ht : tgOK h hb ((t + D, e, c, 7, 0, 0), tg)) (hr : Rm r 2) : JG X (ad β (slot tg) 1) T A h hb N t D (pIr r q e c v).1 (pIr r q e c v).2 := by
  have hN : N ≤ 40 := hJ.1.2.1.2
  have hw : wgt X ((t + D, e, c, 7, 0, 0), tg) = 1 := rfl
  have h1 := JG.send hJ he hc (show 7 < 14 by decide) (show 0 < 8 by decide) hA (show 0 < 40 by decide) (fun h9 => absurd h9 (by decide)) (fun _ => rfl) ht (hr.mono rfl (by decide))
  have hR1 : Rm (pSend r q e c 7 0).1 1 := hr.send (by decide) he
  rw [hw] at h1
  unfold pIr
  generalize pSend r q e c 7 0 = p at h1 hR1 ⊢
  split
  · exact h1
  · split
    · exact h1.idle he hc
    · rename_i hm
      have ho := own_of hm
      rcases (h1.ej he hc).own hN with h2 | ⟨n', hn', h2⟩
      · rw [h2] at ho; exact absurd ho hm
      · rw [ho, h2, clampN (show n' < 2147483648 by omega)]
        split
        · exact (h1.idle he hc).try hn' hA (hR1.idle he hc)
        · exact (h1.idle he hc).pend
theorem JG.iz (hJ : JG X β T A h hb N t D r q) (he : e < 2) (hc : c < 12) (hA : A.1 < t + D) (ht : tgOK h hb ((t + D, e, c, 13, 0, 0), tg)) (ht2 : tgOK h hb ((t + D, e, c, 8, 0, 0), tg)) (hr : Rm r 2) : JG X (ad β (slot tg) (1 + X e c)) T A h hb N t D (pIz r q e c).1 (pIz r q e c).2 := by
  have hw : wgt X ((t + D, e, c, 13, 0, 0), tg) = 1 := rfl
  have hw2 : wgt X ((t + D, e, c, 8, 0, 0), tg) = 1 := rfl
  have h1 := (JG.send hJ he hc (show 13 < 14 by decide) (show 0 < 8 by decide) hA (show 0 < 40 by decide) (fun h9 => absurd h9 (by decide)) (fun _ => rfl) ht (hr.mono rfl (by decide))).rmt he hc (show 0 < 2 by decide)
  have hR1 : Rm (sE (pSend r q e c 13 0).1 e c 5 (nI 0)) 1 := (hr.send (by decide) he).sE he hc (by decide)
  rw [hw] at h1
  unfold pIz
  have key : JG X (ad β (slot tg) (1 + X e c)) T A h hb N t D (pIz2 (pIz1 r q e c).1 (pIz1 r q e c).2 e c).1 (pIz2 (pIz1 r q e c).1 (pIz1 r q e c).2 e c).2 := by
    show JG X (ad β (slot tg) (1 + X e c)) T A h hb N t D (pIz2 (sE (pSend r q e c 13 0).1 e c 5 (nI 0)) (pSend r q e c 13 0).2 e c).1 (pIz2 (sE (pSend r q e c 13 0).1 e c 5 (nI 0)) (pSend r q e c 13 0).2 e c).2
    generalize sE (pSend r q e c 13 0).1 e c 5 (nI 0) = r2 at h1 hR1 ⊢
    generalize (pSend r q e c 13 0).2 = q2 at h1 ⊢
    unfold pIz2
    split
    · rename_i hl
      have hX : X e c = 1 := by
        obtain ⟨s', o, tm, ag, lb, rm, wt, vl, bt, ⟨-, -, -, -, v4, -⟩, hn', b3, b4⟩ := h1.ej he hc
        unfold eV at v4
        rw [v4, lbN (by unfold En at hn'; omega)] at hl
        unfold En at hn'; omega
      have h2 := JG.send h1 he hc (show 8 < 14 by decide) (show 0 < 8 by decide) hA (show 0 < 40 by decide) (fun h9 => absurd h9 (by decide)) (fun _ => rfl) ht2 hR1
      rw [hw2] at h2
      have h3 := h2.blk (r' := sE (sE (pSend r2 q2 e c 8 0).1 e c 4 (nI 1)) e c 8 (nI 10)) he hc ((Tch.rfl'.sE (by decide) hc he).sE (by decide) hc he) (by rw [sE_11 he hc (by decide), sE_11 he hc (by decide)]) (fun w hw h9 => by rw [sE_w (by omega) (by decide) hw, sE_w (by omega) (by decide) hw]) (fun lb rm bt u4 u5 u8 u1 u2 u3 u6 u7 => ⟨1, rm, 10, by simp only [ev1, Nat.reduceLT, Nat.reduceEqDiff, if_true, if_false], by simp only [ev1, Nat.reduceLT, Nat.reduceEqDiff, if_false]; exact u5, by simp only [ev1, Nat.reduceLT, if_true], by decide, u2, by decide, fun _ => ⟨by decide, by
        obtain ⟨s', o, tm, ag, lb, rm, wt, vl, bt, -, hn', b3, b4⟩ := h2.ej he hc
        unfold En at hn'; omega⟩, fun _ => hX⟩)
      refine h3.mono (fun i => ?_)
      unfold ad
      by_cases h9 : i = slot tg
      · subst h9; simp only [u1_s]; omega
      · simp only [u1_n h9]; exact Nat.le_refl _
    · exact h1.mono (ad_le (Nat.le_add_right 1 _))
  generalize (pIz2 (pIz1 r q e c).1 (pIz1 r q e c).2 e c).2 = q3 at key ⊢
  generalize (pIz2 (pIz1 r q e c).1 (pIz1 r q e c).2 e c).1 = r3 at key ⊢
  show JG X (ad β (slot tg) (1 + X e c)) T A h hb N t D (pIz3 r3 e c) q3
  unfold pIz3
  split
  · exact key
  · exact (key.idle he hc).pendO
theorem JG.rb (hJ : JG X β T A h hb N t D r q) (he : e < 2) (hc : c < 12) (hA : A.1 < t + D) (ht9 : k = 8 → tgOK h hb ((t + D, e, c, 9, 0, 0), tg)) (ht11 : k = 10 → tgOK h hb ((t + D, e, c, 11, 0, 0), tg)) (hr : Rm r 1) : JG X (ad β (slot tg) 1) T A h hb N t D (pRb r q e c k).1 (pRb r q e c k).2 := by
  unfold pRb
  split
  · rename_i hk
    exact JG.send (hJ.rmt he hc (show 1 < 2 by decide)) he hc (show 9 < 14 by decide) (show 0 < 8 by decide) hA (show 0 < 40 by decide) (fun h9 => absurd h9 (by decide)) (fun _ => rfl) (ht9 hk) (hr.sE he hc (by decide))
  · split
    · rename_i hk
      exact JG.send (hJ.rmt he hc (show 0 < 2 by decide)) he hc (show 11 < 14 by decide) (show 0 < 8 by decide) hA (show 0 < 40 by decide) (fun h9 => absurd h9 (by decide)) (fun _ => rfl) (ht11 hk) (hr.sE he hc (by decide))
    · split
      · refine JG.mono1 (hJ.blk he hc (Tch.rfl'.sE (by decide) hc he) (sE_11 he hc (by decide)) (fun w hw h9 => sE_w (by omega) (by decide) hw) (fun lb rm bt u4 u5 u8 u1 u2 u3 u6 u7 => ?_))
        refine ⟨if lb = 1 then 2 else lb, rm, bt, ?_, (sE_w (by decide) (by decide) (by decide)).trans u5, (sE_w (by decide) (by decide) (by decide)).trans u8, ?_⟩
        · show sE r e c 4 _ (eI e c 4) = _
          rw [sE_s, u4]
          by_cases h9 : lb = 1
          · subst h9; rfl
          · rw [if_neg h9, if_neg (fun h8 => h9 ((nI_eq (by omega) (by decide)).mp h8))]
        · by_cases h9 : lb = 1
          · rw [if_pos h9]; omega
          · rw [if_neg h9]; omega
      · refine JG.mono1 (hJ.blk he hc (Tch.rfl'.sE (by decide) hc he) (sE_11 he hc (by decide)) (fun w hw h9 => sE_w (by omega) (by decide) hw) (fun lb rm bt u4 u5 u8 u1 u2 u3 u6 u7 => ?_))
        refine ⟨if lb = 3 then 0 else lb, rm, bt, ?_, (sE_w (by decide) (by decide) (by decide)).trans u5, (sE_w (by decide) (by decide) (by decide)).trans u8, ?_⟩
        · show sE r e c 4 _ (eI e c 4) = _
          rw [sE_s, u4]
          by_cases h9 : lb = 3
          · subst h9; rfl
          · rw [if_neg h9, if_neg (fun h8 => h9 ((nI_eq (by omega) (by decide)).mp h8))]
        · by_cases h9 : lb = 3
          · rw [if_pos h9]; omega
          · rw [if_neg h9]; omega
theorem JG.ite (p : Prop) [Decidable p] (h1 : p → JG X β T A h hb N t D r q) (h2 : JG X β T A h hb N t D r1 q) : JG X β T A h hb N t D (if p then r else r1) q := by
  by_cases hp : p
  · rw [if_pos hp]; exact h1 hp
  · rw [if_neg hp]; exact h2
/-- a message is received -/
theorem JG.rv (hJ : JG X β T A h hb N t D r q) (hg : okG N r g) (hX : X (1 - g.1.2.1) g.1.2.2.1 ≤ 1) (ht : tgOK h hb g) (ha : g.1.1 = t) (hlt : ∀ x, x < 24 → h x < t ∧ hb x < t) (hA : A.1 ≤ t) (hr : Rm r 2) : JG X (ad β (slot g.2) (wgt X g)) T A h hb N t D (pRv r q (1 - g.1.2.1) g.1.2.2.1 g.1.2.2.2.1 g.1.2.2.2.2.1 g.1.2.2.2.2.2).1 (pRv r q (1 - g.1.2.1) g.1.2.2.1 g.1.2.2.2.1 g.1.2.2.2.2.1 g.1.2.2.2.2.2).2 := by
  obtain ⟨g1, g2, g3, g4, g5, g6, g7⟩ := hg
  have hD := hJ.2.1.2.2.2.2
  have hD1 := hJ.2.1.2.2.2.1
  have he : 1 - g.1.2.1 < 2 := by omega
  have hA' : A.1 < t + D := by omega
  have hR1 : Rm r 1 := hr.mono rfl (by decide)
  have wge : 1 ≤ wgt X g := by
    unfold wgt
    split
    · split <;> omega
    · exact Nat.le_refl 1
  have w12 : g.1.2.2.2.1 = 12 → 1 + X (1 - g.1.2.1) g.1.2.2.1 ≤ wgt X g := fun hk => by
    unfold wgt
    rw [if_pos hk]
    split
    · exact Nat.le_refl _
    · omega
  have tr : ∀ {k' v x e c}, ((g.1.2.2.2.1 = 0 ∧ k' = 6) ∨ (g.1.2.2.2.1 = 6 ∧ k' = 7) ∨ (g.1.2.2.2.1 = 12 ∧ (k' = 13 ∨ k' = 8)) ∨ (g.1.2.2.2.1 = 8 ∧ k' = 9) ∨ (g.1.2.2.2.1 = 10 ∧ k' = 11)) → tgOK h hb ((t + D, e, c, k', v, x), g.2) := fun h9 => tg_resp ht ha hlt hD h9
  clear ht ha hlt
  generalize hw : wgt X g = W at wge w12 ⊢
  generalize hs : slot g.2 = S at ⊢
  generalize g.1.2.2.2.2.2 = n at g6 g7 ⊢
  generalize g.1.2.2.2.2.1 = v at g5 g7 ⊢
  generalize g.1.2.2.2.1 = k at g4 g7 w12 tr ⊢
  generalize g.1.2.2.1 = c at g3 hX w12 ⊢
  have ho : r (cI n 0) = nI g.1.2.1 → r (cI n 0) = nI (1 - (1 - g.1.2.1)) := fun h9 => by rw [h9]; congr 1; omega
  generalize g.1.2.1 = e0 at g2 hX he w12 g7 ho ⊢
  generalize 1 - e0 = e at he hX w12 ho ⊢
  have hk : k = 0 ∨ k = 1 ∨ k = 2 ∨ k = 3 ∨ k = 4 ∨ k = 5 ∨ k = 6 ∨ k = 7 ∨ k = 8 ∨ k = 9 ∨ k = 10 ∨ k = 11 ∨ k = 12 ∨ k = 13 := by omega
  rcases hk with rfl | rfl | rfl | rfl | rfl | rfl | rfl | rfl | rfl | rfl | rfl | rfl | rfl | rfl
  · obtain ⟨b1, b2, b3⟩ := g7 rfl
    show JG X (ad β S W) T A h hb N t D (pSz r q e c v n).1 (pSz r q e c v n).2
    rw [← hs]
    exact (JG.sz hJ (tg := g.2) he g3 b1 b2 (ho b3) hA' (tr (by omega)) hr).mono (ad_le wge)
  · exact (hJ.ck (v := v) he g3).mono1
  · exact JG.mono1 (JG.ite (r (eI e c 0) = nI 1) (fun hs => hJ.go (s := 3) (a := 60) (n := 1) he g3 (by decide) (by decide) (by rw [hs]; decide)) hJ)
  · exact JG.mono1 (JG.ite (¬ pOwn r e c = -1 ∧ (r (eI e c 0) = nI 1 ∨ r (eI e c 0) = nI 3)) (fun hs => hJ.go (s := 4) (a := 0) (n := 2) he g3 (by decide) (by decide) (by rcases hs.2 with hs | hs <;> rw [hs] <;> decide)) hJ)
  · exact JG.mono1 (JG.ite (¬ pOwn r e c = -1 ∧ r (eI e c 0) = nI 4) (fun hs => hJ.go (s := 5) (a := 40) (n := 3) he g3 (by decide) (by decide) (by rw [hs.2]; decide)) hJ)
  · exact JG.mono1 (JG.ite (¬ pOwn r e c = -1 ∧ r (eI e c 0) = nI 5) (fun hs => hJ.go (s := 4) (a := 0) (n := 2) he g3 (by decide) (by decide) (by rw [hs.2]; decide)) hJ)
  · show JG X (ad β S W) T A h hb N t D (pIr r q e c v).1 (pIr r q e c v).2
    rw [← hs]
    exact (JG.ir hJ he g3 hA' (tr (by omega)) hr).mono (ad_le wge)
  · exact JG.mono1 (JG.ite (r (eI e c 0) = nI 6) (fun _ => hJ.idle he g3) hJ)
  · show JG X (ad β S W) T A h hb N t D (pRb r q e c 8).1 (pRb r q e c 8).2
    rw [← hs]
    exact (JG.rb hJ he g3 hA' (fun _ => tr (by omega)) (fun h9 => absurd h9 (by decide)) hR1).mono (ad_le wge)
  · show JG X (ad β S W) T A h hb N t D (pRb r q e c 9).1 (pRb r q e c 9).2
    rw [← hs]
    exact (JG.rb hJ he g3 hA' (fun h9 => absurd h9 (by decide)) (fun h9 => absurd h9 (by decide)) hR1).mono (ad_le wge)
  · show JG X (ad β S W) T A h hb N t D (pRb r q e c 10).1 (pRb r q e c 10).2
    rw [← hs]
    exact (JG.rb hJ he g3 hA' (fun h9 => absurd h9 (by decide)) (fun _ => tr (by omega)) hR1).mono (ad_le wge)
  · show JG X (ad β S W) T A h hb N t D (pRb r q e c 11).1 (pRb r q e c 11).2
    rw [← hs]
    exact (JG.rb hJ he g3 hA' (fun h9 => absurd h9 (by decide)) (fun h9 => absurd h9 (by decide)) hR1).mono (ad_le wge)
  · show JG X (ad β S W) T A h hb N t D (pIz r q e c).1 (pIz r q e c).2
    rw [← hs]
    exact (JG.iz hJ he g3 hA' (tr (by omega)) (tr (by omega)) hr).mono (ad_le (w12 rfl))
  · exact JG.mono1 (JG.ite (r (eI e c 0) = nI 7) (fun _ => hJ.idle he g3) hJ)
end CAP4
