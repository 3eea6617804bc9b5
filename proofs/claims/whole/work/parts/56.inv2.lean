/-! what holds between calls, kept by each call: those that send -/
section INV2
variable {X : Nat → Nat → Nat} {β β' T h hb : Nat → Nat} {A : Nat × Nat} {N t D D' e c w k v n j i x s a b p B B' J d C f_ : Nat} {r r' : Nat → Int32} {q q' : Nat → Int64} {z : Int32} {tg : Tg}
theorem pNew_lo (h1 : j < 240) (h2 : ¬ j = 5) : pNew r N e k j = r j := by
  unfold pNew inc
  rw [sC_n h1, sC_n h1, sC_n h1, sC_n h1, sC_n h1, u1_n h2]
theorem pNew_5 : pNew r N e k 5 = r 5 + nI 1 := by
  unfold pNew inc
  rw [sC_n (by decide), sC_n (by decide), sC_n (by decide), sC_n (by decide), sC_n (by decide), u1_s]
theorem pNew_o (h : ¬ n = N) (hw : w < 6) : pNew r N e k (cI n w) = r (cI n w) := by
  unfold pNew
  rw [sC_c (by omega) (by decide) hw, sC_c (by omega) (by decide) hw, sC_c (by omega) (by decide) hw, sC_c (by omega) (by decide) hw, sC_c (by omega) (by decide) hw]
  unfold inc
  rw [u1_n (by have := cI_ge (n := n) (w := w); omega)]
theorem pNew_c0 : pNew r N e k (cI N 0) = nI e := by
  unfold pNew
  rw [sC_c (by omega) (by decide) (by decide), sC_c (by omega) (by decide) (by decide), sC_c (by omega) (by decide) (by decide), sC_c (by omega) (by decide) (by decide), sC_s]
theorem pNew_c2 : pNew r N e k (cI N 2) = nI 0 := by
  unfold pNew
  rw [sC_c (by omega) (by decide) (by decide), sC_c (by omega) (by decide) (by decide), sC_c (by omega) (by decide) (by decide), sC_s]
theorem pNew_c5 : pNew r N e k (cI N 5) = nI k := by unfold pNew; rw [sC_s]
theorem JG.new1 (hJ : JG X β T A h hb N t D r q) (hN : N < 40) (he : e < 2) (hk : k < 2) : JG X (ad β 0 6) T A h hb (N + 1) t D (pNew r N e k) q := by
  obtain ⟨⟨⟨C, b1, b2, b3⟩, ⟨b4, b5⟩, b6, b7, b8⟩, ⟨a2, a3, a4, a5⟩, G, n, a6, a7, a8, a9⟩ := hJ
  have hE : ∀ {e' c' w}, e' < 2 → c' < 12 → w < 9 → pNew r N e k (eI e' c' w) = r (eI e' c' w) := fun {e' c' w} g1 g2 g3 => pNew_lo (eI_lt g1 g2 g3) (by have := eI_ge (e := e') (c := c') (w := w); omega)
  refine ⟨⟨⟨C, b1, b2, (pNew_lo (by decide) (by decide)).trans b3⟩, ⟨?_, by omega⟩, fun c' hc' => ?_, fun n hn => ?_, fun e' c' he' hc' => ?_⟩, ⟨(pNew_lo (by decide) (by decide)).trans a2, a3, (pNew_lo (by decide) (by decide)).trans a4, a5⟩, G, n, (pNew_lo (by decide) (by decide)).trans a6, a7, ⟨fun i hi => ?_, a8.2⟩, fun s => ?_⟩
  · rw [pNew_5, b4, nI_add]
  · rw [pNew_lo (by omega) (by omega)]; exact b6 c' hc'
  · by_cases h9 : n = N
    · subst h9; exact ⟨e, 0, k, he, by decide, hk, pNew_c0, pNew_c2, pNew_c5⟩
    · rw [pNew_o h9 (by decide), pNew_o h9 (by decide), pNew_o h9 (by decide)]; exact b7 n hn
  · obtain ⟨s, o, tm, ag, lb, rm, wt, vl, bt, d1, d2, d3, d4⟩ := b8 e' c' he' hc'
    have ho : o ≤ N := d2.1.2.1
    refine ⟨s, o, tm, ag, lb, rm, wt, vl, bt, d1.congr (fun w hw => hE he' hc' hw), ?_, fun h9 => ?_, fun h9 => ?_⟩
    · obtain ⟨⟨f1, f2, f3⟩, f4⟩ := d2
      exact ⟨⟨f1, by omega, f3⟩, f4⟩
    · have := d2.2.1 h9
      rw [pNew_o (by omega) (by decide)]; exact d3 h9
    · have := d2.2.2.1 h9
      rw [pNew_o (by omega) (by decide)]; exact d4 h9
  · obtain ⟨d1, d2, d3, d4⟩ := a8.1 i hi
    obtain ⟨f1, f2, f3, f4, f5, f6, f7⟩ := d2
    exact ⟨d1, ⟨f1, f2, f3, f4, f5, f6, fun h0 => ⟨(f7 h0).1, by have := (f7 h0).2.1; omega, by rw [pNew_o (by have := (f7 h0).2.1; omega) (by decide)]; exact (f7 h0).2.2⟩⟩, d3, d4⟩
  · have hP : RP (pNew r N e k) (N + 1) = RP r N + 6 := by
      unfold RP
      have e1 : sumN (fun n => 3 - (pNew r N e k (cI n 2)).toNatClampNeg) (N + 1) = sumN (fun n => 3 - (r (cI n 2)).toNatClampNeg) N + 3 := by
        show sumN (fun n => 3 - (pNew r N e k (cI n 2)).toNatClampNeg) N + (3 - (pNew r N e k (cI N 2)).toNatClampNeg) = _
        rw [pNew_c2, sumN_congr N (f := fun n => 3 - (pNew r N e k (cI n 2)).toNatClampNeg) (f' := fun n => 3 - (r (cI n 2)).toNatClampNeg) (fun n hn => by show 3 - (pNew r N e k (cI n 2)).toNatClampNeg = _; rw [pNew_o (by omega) (by decide)])]
        rfl
      rw [e1, sumN_congr (f := fun x => chk (pNew r N e k) (x / 12) (x % 12)) (f' := fun x => chk r (x / 12) (x % 12)) 24 (fun x hx => by show chk (pNew r N e k) (x / 12) (x % 12) = _; unfold chk; rw [hE (by omega) (by omega) (by decide), hE (by omega) (by omega) (by decide)])]
      omega
    have h1 := a9 s
    unfold ad
    by_cases hs : s = 0
    · subst hs; rw [if_pos rfl] at h1 ⊢; rw [u1_s, hP]; omega
    · rw [if_neg hs] at h1 ⊢; rw [u1_n hs]; exact h1
theorem JI.call (hJ : JI X B N t D r q) (hB : B + 6 ≤ 12012) (hN : N < 40) (he : e < 2) (hk : k < 2) (hc : c < 12) (hi : r (eI e c 0) = nI 0) : JI X (B + 6) (N + 1) t D (pAtt (pNew r N e k) q N e k c).1 (pAtt (pNew r N e k) q N e k c).2 := by
  obtain ⟨f, fb, hJ⟩ := hJ
  have hD := hJ.2.1.2.2.2.1
  have h1 := (hJ.new1 hN he hk).mono (std_ad (B := B) (a := 6))
  exact ⟨f, fb, h1.att (Nat.lt_succ_self N) pNew_c2 (by decide) he hc hk pNew_c0 (by rw [pNew_lo (eI_lt he hc (by decide)) (by have := eI_ge (e := e) (c := c) (w := 0); omega)]; exact hi) (show t < t + D by omega) ((h1.cap (std_cap hB)).mono rfl (by decide))⟩
theorem JI.send0 (hJ : JI X B N t D r q) (hB : B ≤ 12012) (he : e < 2) (hc : c < 12) (hk : k < 14) (hk0 : ¬ k = 0) (hk12 : ¬ k = 12) : JI X (B + 1) N t D (pSend r q e c k 0).1 (pSend r q e c k 0).2 := by
  obtain ⟨f, fb, hJ⟩ := hJ
  have hD := hJ.2.1.2.2.2.1
  have h1 := JG.send (tg := (0, 0, 0)) hJ he hc hk (show 0 < 8 by decide) (show t < t + D by omega) (show 0 < 40 by decide) (fun h9 => absurd h9 hk0) (fun _ => rfl) (Or.inl rfl) ((hJ.cap (std_cap hB)).mono rfl (by decide))
  have w1 : wgt X ((t + D, e, c, k, 0, 0), (0, 0, 0)) = 1 := by unfold wgt; rw [if_neg hk12]
  rw [w1] at h1
  exact ⟨f, fb, h1.mono (std_ad (B := B) (a := 1))⟩
theorem JI.does (hJ : JI X B N t D r q) (hB : B ≤ 12012) (he : e < 2) (hc : c < 12) (hk : k < 14) (hk0 : ¬ k = 0) (hk12 : ¬ k = 12) (hf : r (eI e c 0) = nI f_) (hf2 : 2 ≤ f_ ∧ f_ ≤ 5) (hs : 3 ≤ s ∧ s ≤ 5) (h6 : r (eI e c 6) = nI 0) : JI X (B + 1) N t D (pDo r q e c k s).1 (pDo r q e c k s).2 := by
  obtain ⟨f, fb, h1⟩ := hJ.send0 hB he hc hk hk0 hk12
  have hf' : (pSend r q e c k 0).1 (eI e c 0) = nI f_ := (pSend_e he eI_ge).trans hf
  have h6' : (pSend r q e c k 0).1 (eI e c 6) = nI 0 := (pSend_e he eI_ge).trans h6
  unfold pDo
  generalize pSend r q e c k 0 = p at h1 hf' h6' ⊢
  show JI X (B + 1) N t D (sE (sE p.1 e c 0 (nI s)) e c 2 (nI 0)) p.2
  refine ⟨f, fb, h1.row ((Tch.rfl'.sE (by decide) hc he).sE (by decide) hc he) (by rw [sE_11 he hc (by decide), sE_11 he hc (by decide)]) he hc ?_ ?_⟩
  · obtain ⟨s', o, tm, ag, lb, rm, wt, vl, bt, ⟨v0, v1, v2, v3, v4, v5, v6, v7, v8⟩, hn', -, -⟩ := h1.ej he hc
    unfold eV at v0 v1 v2 v3 v4 v5 v6 v7 v8
    have hs' : s' = f_ := (nI_eq (by have := hn'.1.1; omega) (by omega)).mp (v0.symm.trans hf')
    have hw' : wt = 0 := (nI_eq (by have := hn'.1.2.2.2.2.2.2.1; omega) (by decide)).mp (v6.symm.trans h6')
    refine ⟨s, o, 0, ag, lb, rm, wt, vl, bt, ?_, ?_, fun h9 => by omega, fun h9 => by omega⟩
    · simp only [EV, eV, ev1, Nat.reduceLT, Nat.reduceEqDiff, if_true, if_false, v1, v3, v4, v5, v6, v7, v8, Nat.zero_ne_one, Nat.one_ne_zero, and_self]
    · unfold En at hn' ⊢; omega
  · rw [chk_0]
    · exact Nat.zero_le _
    · left
      simp only [ev1, Nat.reduceLT, Nat.reduceEqDiff, if_true, if_false]
      rw [st_dec (by omega)]; omega
theorem JI.rel (hJ : JI X B N t D r q) (hB : B ≤ 12012) (he : e < 2) (hc : c < 12) : JI X (B + 1) N t D (pRel r q e c 0).1 (pRel r q e c 0).2 := by
  obtain ⟨f, fb, hJ⟩ := hJ
  have hD := hJ.2.1.2.2.2.1
  have h1 := JG.rel (tg := (0, 0, 0)) hJ he hc (show 0 < 8 by decide) (show t < t + D by omega) (Or.inl rfl) ((hJ.cap (std_cap hB)).mono rfl (by decide))
  exact ⟨f, fb, h1.mono (std_ad (B := B) (a := 1))⟩
theorem JI.blk (hJ : JI X B N t D r q) (hB : B ≤ 12012) (he : e < 2) (hc : c < 12) (hk : k = 8 ∨ k = 10) (hs : (s = 1 ∧ X e c = 1) ∨ s = 3) : JI X (B + 1) N t D (pBk r q e c k s).1 (pBk r q e c k s).2 := by
  obtain ⟨f, fb, h1⟩ := hJ.send0 hB he hc (show k < 14 by omega) (show ¬ k = 0 by omega) (show ¬ k = 12 by omega)
  unfold pBk
  generalize pSend r q e c k 0 = p at h1 ⊢
  show JI X (B + 1) N t D (sE (sE p.1 e c 8 (nI 10)) e c 4 (nI s)) p.2
  refine ⟨f, fb, h1.blk he hc ((Tch.rfl'.sE (by decide) hc he).sE (by decide) hc he) (by rw [sE_11 he hc (by decide), sE_11 he hc (by decide)]) (fun w hw h9 => by rw [sE_w (by omega) (by decide) hw, sE_w (by omega) (by decide) hw]) (fun lb rm bt u4 u5 u8 u1 u2 u3 u6 u7 => ⟨s, rm, 10, by simp only [ev1, Nat.reduceLT, if_true], by simp only [ev1, Nat.reduceLT, Nat.reduceEqDiff, if_false]; exact u5, by simp only [ev1, Nat.reduceLT, Nat.reduceEqDiff, if_true, if_false], by omega, u2, by decide, fun _ => ⟨by decide, ?_⟩, fun h9 => by omega⟩)⟩
  obtain ⟨s', o, tm, ag, lb, rm, wt, vl, bt, -, hn', -, -⟩ := h1.ej he hc
  have : fb (12 * e + c) ≤ t := hn'.2.2.2.2.2.2.2.2.2.1
  show fb (12 * e + c) + 10 ≤ t + 10
  omega
theorem JI.rs (he : e < 2) : ∀ j c B r q, c + j ≤ 12 → JI X B N t D r q → B + (j + sumN (fun i => X (1 - e) (c + i)) j) ≤ 12012 → JI X (B + (j + sumN (fun i => X (1 - e) (c + i)) j)) N t D (pRs e j c (r, q)).1 (pRs e j c (r, q)).2
  | 0, c, B, r, q, _, hJ, _ => hJ
  | j + 1, c, B, r, q, hc, hJ, hB => by
    have e1 : sumN (fun i => X (1 - e) (c + i)) (j + 1) = X (1 - e) c + sumN (fun i => X (1 - e) (c + 1 + i)) j := by
      rw [sumN_pop]
      have : sumN (fun i => X (1 - e) (c + (i + 1))) j = sumN (fun i => X (1 - e) (c + 1 + i)) j := sumN_congr j (fun i _ => by show X (1 - e) (c + (i + 1)) = X (1 - e) (c + 1 + i); rw [show c + (i + 1) = c + 1 + i by omega])
      rw [this]
      rfl
    rw [e1] at hB ⊢
    obtain ⟨f, fb, hJ⟩ := hJ
    have hD := hJ.2.1.2.2.2.1
    have h1 := JG.rst (tg := (0, 0, 0)) hJ he (show c < 12 by omega) (show t < t + D by omega) (Or.inl rfl) ((hJ.cap (std_cap (by omega))).mono rfl (by decide))
    have w1 : wgt X ((t + D, e, c, 12, 0, 0), (0, 0, 0)) = 1 + X (1 - e) c := rfl
    rw [w1] at h1
    have h2 := JI.rs he j (c + 1) (B + (1 + X (1 - e) c)) _ _ (by omega) ⟨f, fb, h1.mono (std_ad (B := B) (a := 1 + X (1 - e) c))⟩ (by omega)
    rw [show B + (j + 1 + (X (1 - e) c + sumN (fun i => X (1 - e) (c + 1 + i)) j)) = B + (1 + X (1 - e) c) + (j + sumN (fun i => X (1 - e) (c + 1 + i)) j) by omega]
    exact h2
theorem JI.tkI (hX : ∀ e c, X e c ≤ 1) (hB : B ≤ 12012) : ∀ j t r q, JI X B N t D r q → t + j ≤ 300000 → JI X B N (t + j) D (pTkI j (r, q)).1 (pTkI j (r, q)).2
  | 0, t, r, q, hJ, _ => hJ
  | j + 1, t, r, q, hJ, ht => by
    have h1 := JI.tkI hX hB j (t + 1) _ _ (hJ.tk hX hB (by omega)) (by omega)
    rw [show t + (j + 1) = t + 1 + j by omega]
    exact h1
end INV2
