/-! how many messages there can be: attempts, releases, resets -/
section CAP3
variable {X : Nat → Nat → Nat} {β β' T h hb : Nat → Nat} {A : Nat × Nat} {N t D e c w w' k v n j x s a p : Nat} {r r' : Nat → Int32} {q q' : Nat → Int64} {z z1 : Int32} {G : Nat → GM} {tg : Tg} {m : Ms} {g : GM}
theorem ev1 (hw : w < 9) (hw' : w' < 9) : sE r e c w z (eI e c w') = if w' = w then z else r (eI e c w') := by
  by_cases h : w' = w
  · subst h; rw [if_pos rfl, sE_s]
  · rw [if_neg h, sE_w h hw hw']
theorem sE_11 (he : e < 2) (hc : c < 12) (hw : w < 9) : sE r e c w z 11 = r 11 := sE_n (Or.inl (by decide)) he hc hw
theorem u1_u1 {α : Type} {f : Nat → α} {a b : Nat} {y z : α} (h : ¬ a = b) : u1 (u1 f a y) b z = u1 (u1 f b z) a y := by
  funext i
  unfold u1
  by_cases h1 : i = b
  · by_cases h2 : i = a
    · omega
    · rw [if_pos h1, if_neg h2, if_pos h1]
  · rw [if_neg h1, if_neg h1]
theorem JG.rowk (hJ : JG X β T A h hb N t D r q) (ht : Tch e c r r') (h11 : r' 11 = r 11) (he : e < 2) (hc : c < 12) (hE : EJ X T h hb N r' e c) (hk : chk r' e c ≤ chk r e c + a) : JG X (u1 β 0 (β 0 + a)) T A h hb N t D r' q := by
  obtain ⟨a1, ⟨a2, a3, a4, a5⟩, G, n, a6, a7, a8, a9⟩ := hJ
  refine ⟨a1.of ht he hc (fun _ _ _ => ⟨rfl, rfl, rfl⟩) hE, ⟨(ht 2 (by unfold Es; omega)).trans a2, a3, (ht 1 (by unfold Es; omega)).trans a4, a5⟩, G, n, h11.trans a6, a7, a8.congr (fun n _ => ht.ci (by omega)), fun s => ?_⟩
  have h1 := a9 s
  have h2 := RP.of (N := N) ht he hc
  by_cases hs : s = 0
  · subst hs; rw [if_pos rfl] at h1 ⊢; rw [u1_s]; omega
  · rw [if_neg hs] at h1 ⊢; rw [u1_n hs]; exact h1
theorem EJ.same (hE : EJ X T h hb N r e c) (hv : ∀ w, w < 9 → r' (eI e c w) = r (eI e c w)) (hc : ∀ n, r' (cI n 0) = r (cI n 0)) : EJ X T h hb N r' e c := by
  obtain ⟨s, o, tm, ag, lb, rm, wt, vl, bt, b1, b2, b3, b4⟩ := hE
  exact ⟨s, o, tm, ag, lb, rm, wt, vl, bt, b1.congr hv, b2, by rw [hc]; exact b3, by rw [hc]; exact b4⟩
/-- nothing of what counts changes -/
theorem JG.inert (hJ : JG X β T A h hb N t D r q) (ht : Tch 0 0 r r') (h11 : r' 11 = r 11) (hv : ∀ w, w < 9 → r' (eI 0 0 w) = r (eI 0 0 w)) : JG X β T A h hb N t D r' q := by
  refine hJ.row ht h11 (by decide) (by decide) ((hJ.1.2.2.2.2 0 0 (by decide) (by decide)).same hv (fun n => ht.ci (by omega))) (Nat.le_of_eq ?_)
  unfold chk
  rw [hv 0 (by decide), hv 6 (by decide)]
theorem JG.lo (hJ : JG X β T A h hb N t D r q) (hw : x = 3 ∨ x = 4 ∨ x = 6 ∨ x = 7 ∨ x = 8 ∨ x = 9 ∨ x = 10) : JG X β T A h hb N t D (u1 r x z) q := hJ.inert (Tch.lo Tch.rfl' (by omega)) (u1_n (by omega)) (fun w hw => u1_n (by have := eI_ge (e := 0) (c := 0) (w := w); omega))
theorem JG.cc (hJ : JG X β T A h hb N t D r q) (hw : w = 1 ∨ w = 3 ∨ w = 4) : JG X β T A h hb N t D (sC r n w z) q := hJ.inert (Tch.sC Tch.rfl' hw) (sC_n (by decide)) (fun w hw => sC_n (eI_lt (by decide) (by decide) hw))
theorem JG.pend (hJ : JG X β T A h hb N t D r q) : JG X β T A h hb N t D (pEnd r n z) q := (hJ.cc (by omega)).cc (by omega)
theorem JG.pendO (hJ : JG X β T A h hb N t D r q) : JG X β T A h hb N t D (pEndO r z z1) q := by
  unfold pEndO
  split
  · exact hJ
  · exact hJ.pend
theorem JG.ej (hJ : JG X β T A h hb N t D r q) (he : e < 2) (hc : c < 12) : EJ X T h hb N r e c := hJ.1.2.2.2.2 e c he hc
theorem chk_0 (h : ¬ r (eI e c 0) = nI 1 ∨ ¬ r (eI e c 6) = nI 1) : chk r e c = 0 := by
  unfold chk
  rw [if_neg (fun h9 => h.elim (fun a => a h9.1) (fun a => a h9.2))]
theorem chk_le : chk r e c ≤ 1 := by
  unfold chk
  by_cases h : r (eI e c 0) = nI 1 ∧ r (eI e c 6) = nI 1
  · rw [if_pos h]; exact Nat.le_refl 1
  · rw [if_neg h]; exact Nat.zero_le 1
theorem oI_0 : oI 0 = -1 := rfl
theorem oI_s : oI (n + 1) = nI n := rfl
/-- an end becomes idle -/
theorem JG.idle (hJ : JG X β T A h hb N t D r q) (he : e < 2) (hc : c < 12) : JG X β T A h hb N t D (pIdle r e c) q := by
  refine hJ.row (Tch.idle Tch.rfl' he hc) ?_ he hc ?_ ?_
  · unfold pIdle
    rw [sE_11 he hc (by decide), sE_11 he hc (by decide), sE_11 he hc (by decide), sE_11 he hc (by decide), sE_11 he hc (by decide)]
  · obtain ⟨s, o, tm, ag, lb, rm, wt, vl, bt, ⟨v0, v1, v2, v3, v4, v5, v6, v7, v8⟩, hn, -, -⟩ := hJ.ej he hc
    unfold eV at v0 v1 v2 v3 v4 v5 v6 v7 v8
    refine ⟨0, 0, 0, 0, lb, rm, 0, vl, bt, ?_, ?_, fun h9 => absurd h9 (by decide), fun h9 => absurd h9 (by decide)⟩
    · simp only [EV, eV, pIdle, ev1, Nat.reduceLT, Nat.reduceEqDiff, if_true, if_false, oI_0, v4, v5, v7, v8, Nat.zero_ne_one, and_self, Nat.one_ne_zero]
    · unfold En at hn ⊢; omega
  · rw [chk_0 (r := pIdle r e c)]
    · exact Nat.zero_le _
    · left
      simp only [pIdle, ev1, Nat.reduceLT, Nat.reduceEqDiff, if_true, if_false, Nat.zero_ne_one, Nat.one_ne_zero, n0_1, not_false_iff]
theorem st_dec (hs : s < 8) : (nI s = nI 1) = (s = 1) := propext (nI_eq (by omega) (by decide))
/-- an end waits for an answer: releasing or resetting -/
theorem JG.aw (hJ : JG X β T A h hb N t D r q) (he : e < 2) (hc : c < 12) (hs : s = 6 ∨ s = 7) (ha : 10 ≤ a ∧ a ≤ 60) (ht : Tch e c r r') (h11 : r' 11 = r 11) (h3 : r' (eI e c 3) = nI 0) (h7 : ∃ v, v < 8 ∧ r' (eI e c 7) = nI v) (hv : r' (eI e c 4) = r (eI e c 4) ∧ r' (eI e c 5) = r (eI e c 5) ∧ r' (eI e c 8) = r (eI e c 8)) : JG X β T A h hb N t D (pAw r' e c (nI s) (nI a)) q := by
  refine hJ.row (Tch.aw ht he hc) ?_ he hc ?_ ?_
  · unfold pAw
    rw [sE_11 he hc (by decide), sE_11 he hc (by decide), sE_11 he hc (by decide), sE_11 he hc (by decide), h11]
  · obtain ⟨s', o, tm, ag, lb, rm, wt, vl, bt, ⟨v0, v1, v2, v3, v4, v5, v6, v7, v8⟩, hn, -, -⟩ := hJ.ej he hc
    unfold eV at v0 v1 v2 v3 v4 v5 v6 v7 v8
    obtain ⟨v, hv7, h7⟩ := h7
    obtain ⟨u4, u5, u8⟩ := hv
    refine ⟨s, 0, a, 0, lb, rm, 0, v, bt, ?_, ?_, fun h9 => by omega, fun h9 => by omega⟩
    · simp only [EV, eV, pAw, ev1, Nat.reduceLT, Nat.reduceEqDiff, if_true, if_false, oI_0, u4, u5, u8, v4, v5, v8, h3, h7, Nat.zero_ne_one, and_self, Nat.one_ne_zero]
    · unfold En at hn ⊢; omega
  · rw [chk_0 (r := pAw r' e c (nI s) (nI a))]
    · exact Nat.zero_le _
    · left
      simp only [pAw, ev1, Nat.reduceLT, Nat.reduceEqDiff, if_true, if_false, Nat.zero_ne_one, Nat.one_ne_zero]
      rw [st_dec (by omega)]; omega
/-- a budget with one part more -/
def ad (β : Nat → Nat) (s a : Nat) : Nat → Nat := u1 β s (β s + a)
theorem ad_le {β : Nat → Nat} {s a b : Nat} (h : a ≤ b) : ∀ i, ad β s a i ≤ ad β s b i := fun i => by
  unfold ad
  by_cases h9 : i = s
  · subst h9; rw [u1_s, u1_s]; omega
  · rw [u1_n h9, u1_n h9]; exact Nat.le_refl _
theorem JG.rel (hJ : JG X β T A h hb N t D r q) (he : e < 2) (hc : c < 12) (hv : v < 8) (hA : A.1 < t + D) (ht : tgOK h hb ((t + D, e, c, 6, v, 0), tg)) (hr : Rm r 1) : JG X (ad β (slot tg) 1) T A h hb N t D (pRel r q e c v).1 (pRel r q e c v).2 := by
  have h1 := JG.send hJ he hc (show 6 < 14 by decide) hv hA (show 0 < 40 by decide) (fun h9 => absurd h9 (by decide)) (fun _ => rfl) ht hr
  have hw : wgt X ((t + D, e, c, 6, v, 0), tg) = 1 := rfl
  rw [hw] at h1
  have h2 := JG.pendO (z := pOwn r e c) (z1 := nI v) h1
  have h3 := JG.aw h2 (r' := sE (sE (pEndO (pSend r q e c 6 v).1 (pOwn r e c) (nI v)) e c 3 (nI 0)) e c 7 (nI v)) he hc (Or.inl rfl) (show 10 ≤ 10 ∧ 10 ≤ 60 by decide) ((Tch.rfl'.sE (by decide) hc he).sE (by decide) hc he) (by rw [sE_11 he hc (by decide), sE_11 he hc (by decide)])
    (by simp only [ev1, Nat.reduceLT, Nat.reduceEqDiff, if_true, if_false]) ⟨v, hv, by simp only [ev1, Nat.reduceLT, if_true]⟩
    (by simp only [ev1, Nat.reduceLT, Nat.reduceEqDiff, if_false, and_self])
  exact h3
theorem JG.rst (hJ : JG X β T A h hb N t D r q) (he : e < 2) (hc : c < 12) (hA : A.1 < t + D) (ht : tgOK h hb ((t + D, e, c, 12, 0, 0), tg)) (hr : Rm r 1) : JG X (ad β (slot tg) (wgt X ((t + D, e, c, 12, 0, 0), tg))) T A h hb N t D (pRst r q e c).1 (pRst r q e c).2 := by
  have h1 := JG.pendO (z := pOwn r e c) (z1 := nI 5) hJ
  have h2 := JG.send h1 he hc (show 12 < 14 by decide) (show 0 < 8 by decide) hA (show 0 < 40 by decide) (fun h9 => absurd h9 (by decide)) (fun _ => rfl) ht hr.pendO
  obtain ⟨s1, o1, tm1, ag1, lb1, rm1, wt1, vl, bt1, ⟨-, -, -, -, -, -, -, v7, -⟩, hn, -, -⟩ := h2.ej he hc
  have h3 := JG.aw h2 (r' := sE (pSend (pEndO r (pOwn r e c) (nI 5)) q e c 12 0).1 e c 3 (nI 0)) he hc (Or.inr rfl) (show 10 ≤ 20 ∧ 20 ≤ 60 by decide) (Tch.rfl'.sE (by decide) hc he) (by rw [sE_11 he hc (by decide)])
    (by simp only [ev1, Nat.reduceLT, if_true]) ⟨vl, hn.1.2.2.2.2.2.2.2.1, by simp only [ev1, Nat.reduceLT, Nat.reduceEqDiff, if_false]; exact v7⟩
    (by simp only [ev1, Nat.reduceLT, Nat.reduceEqDiff, if_false, and_self])
  exact h3
/-- a call's next attempt -/
theorem JG.att0 (hJ : JG X β T A h hb N t D r q) (hn : n < N) (ha : r (cI n 2) = nI a) (ha3 : a < 3) : 2 ≤ β 0 ∧ JG X (u1 β 0 (β 0 - 2)) T A h hb N t D (sC r n 2 (r (cI n 2) + nI 1)) q := by
  obtain ⟨a1, ⟨a2, a3, a4, a5⟩, G, m, a6, a7, a8, a9⟩ := hJ
  obtain ⟨⟨C, b1, b2, b3⟩, ⟨b4, b5⟩, b6, b7, b8⟩ := a1
  have hlo : ∀ {j}, j < 240 → sC r n 2 (r (cI n 2) + nI 1) j = r j := fun hj => sC_n hj
  have hcc : ∀ {n' w'}, w' < 6 → ¬ (n' = n ∧ w' = 2) → sC r n 2 (r (cI n 2) + nI 1) (cI n' w') = r (cI n' w') := fun hw h9 => sC_c h9 (by decide) hw
  have hself : sC r n 2 (r (cI n 2) + nI 1) (cI n 2) = nI (a + 1) := by rw [sC_s, ha, nI_add]
  have hP : RP (sC r n 2 (r (cI n 2) + nI 1)) N + 2 = RP r N := by
    unfold RP
    have e1 := sumN_one (x := n) (f := fun i => 3 - (sC r n 2 (r (cI n 2) + nI 1) (cI i 2)).toNatClampNeg) (f' := fun i => 3 - (r (cI i 2)).toNatClampNeg) N hn (fun i _ hin => by
      show 3 - (sC r n 2 (r (cI n 2) + nI 1) (cI i 2)).toNatClampNeg = _
      rw [hcc (by decide) (fun h9 => hin h9.1)])
    have f1 : (r (cI n 2)).toNatClampNeg = a := by rw [ha]; exact clampN (by omega)
    have f2 : (sC r n 2 (r (cI n 2) + nI 1) (cI n 2)).toNatClampNeg = a + 1 := by rw [hself]; exact clampN (by omega)
    rw [f1, f2] at e1
    have e2 := sumN_congr (f := fun x => chk (sC r n 2 (r (cI n 2) + nI 1)) (x / 12) (x % 12)) (f' := fun x => chk r (x / 12) (x % 12)) 24 (fun i hi => by
      show chk (sC r n 2 (r (cI n 2) + nI 1)) (i / 12) (i % 12) = _
      unfold chk
      rw [hlo (eI_lt (by omega) (by omega) (by decide)), hlo (eI_lt (by omega) (by omega) (by decide))])
    omega
  have h0 := a9 0
  rw [if_pos rfl] at h0
  refine ⟨by omega, ⟨⟨C, b1, b2, (hlo (by decide)).trans b3⟩, ⟨(hlo (by decide)).trans b4, b5⟩, fun c hc => ?_, fun n' hn' => ?_, fun e' c' he' hc' => ?_⟩, ⟨(hlo (by decide)).trans a2, a3, (hlo (by decide)).trans a4, a5⟩, G, m, (hlo (by decide)).trans a6, a7, a8.congr (fun n' _ => hcc (by decide) (fun h9 => absurd h9.2 (by decide))), fun s => ?_⟩
  · rw [hlo (by omega)]; exact b6 c hc
  · obtain ⟨og, at_, ck, c1, c2, c3, c4, c5, c6⟩ := b7 n' hn'
    by_cases hnn : n' = n
    · subst hnn
      exact ⟨og, a + 1, ck, c1, by omega, c3, by rw [hcc (by decide) (fun h9 => absurd h9.2 (by decide))]; exact c4, hself, by rw [hcc (by decide) (fun h9 => absurd h9.2 (by decide))]; exact c6⟩
    · exact ⟨og, at_, ck, c1, c2, c3, by rw [hcc (by decide) (fun h9 => hnn h9.1)]; exact c4, by rw [hcc (by decide) (fun h9 => hnn h9.1)]; exact c5, by rw [hcc (by decide) (fun h9 => hnn h9.1)]; exact c6⟩
  · exact (b8 e' c' he' hc').same (fun w hw => hlo (eI_lt he' hc' hw)) (fun n' => hcc (by decide) (fun h9 => absurd h9.2 (by decide)))
  · have h1 := a9 s
    by_cases hs : s = 0
    · subst hs; rw [if_pos rfl] at h1 ⊢; rw [u1_s]; omega
    · rw [if_neg hs] at h1 ⊢; rw [u1_n hs]; exact h1
theorem JG.att (hJ : JG X β T A h hb N t D r q) (hn : n < N) (ha : r (cI n 2) = nI a) (ha3 : a < 3) (he : e < 2) (hc : c < 12) (hk : k < 2) (hre : r (cI n 0) = nI e) (hi : r (eI e c 0) = nI 0) (hA : A.1 < t + D) (hr : Rm r 1) : JG X β T A h hb N t D (pAtt r q n e k c).1 (pAtt r q n e k c).2 := by
  have hN : N ≤ 40 := hJ.1.2.1.2
  obtain ⟨hβ, h1⟩ := hJ.att0 hn ha ha3
  have hR1 : Rm (sC r n 2 (r (cI n 2) + nI 1)) 1 := hr.mono (sC_n (by decide)) (Nat.le_refl 1)
  have hre1 : sC r n 2 (r (cI n 2) + nI 1) (cI n 0) = nI e := by rw [sC_c (by omega) (by decide) (by decide)]; exact hre
  have hi1 : sC r n 2 (r (cI n 2) + nI 1) (eI e c 0) = nI 0 := by rw [sC_n (eI_lt he hc (by decide))]; exact hi
  unfold pAtt
  generalize sC r n 2 (r (cI n 2) + nI 1) = r1 at h1 hR1 hre1 hi1 ⊢
  have h2 := ((h1.cc (n := n) (z := nI c) (show 1 = 1 ∨ 1 = 3 ∨ 1 = 4 by decide)).cc (n := n) (z := nI 0) (show 3 = 1 ∨ 3 = 3 ∨ 3 = 4 by decide)).lo (x := 10) (z := sC (sC r1 n 1 (nI c)) n 3 (nI 0) 10 + nI 1) (by decide)
  rw [inc_f] at h2
  have hR2 : Rm (inc (sC (sC r1 n 1 (nI c)) n 3 (nI 0)) 10) 1 := hR1.mono (by unfold inc; rw [u1_n (by decide), sC_n (by decide), sC_n (by decide)]) (Nat.le_refl 1)
  have hv2 : ∀ {w}, w < 9 → inc (sC (sC r1 n 1 (nI c)) n 3 (nI 0)) 10 (eI e c w) = r1 (eI e c w) := fun hw => by
    unfold inc
    rw [u1_n (by have := eI_ge (e := e) (c := c) (w := ‹Nat›); omega), sC_n (eI_lt he hc hw), sC_n (eI_lt he hc hw)]
  have hre2 : inc (sC (sC r1 n 1 (nI c)) n 3 (nI 0)) 10 (cI n 0) = nI e := by
    unfold inc
    rw [u1_n (by have := cI_ge (n := n) (w := 0); omega), sC_c (by omega) (by decide) (by decide), sC_c (by omega) (by decide) (by decide)]
    exact hre1
  have hi2 := (hv2 (show 0 < 9 by decide)).trans hi1
  clear hv2
  generalize inc (sC (sC r1 n 1 (nI c)) n 3 (nI 0)) 10 = r2 at h2 hR2 hre2 hi2 ⊢
  have hT : Tch e c r2 (sE (sE (sE (sE r2 e c 0 (nI 1)) e c 1 (nI n)) e c 2 (if k = 1 then nI 3 else nI 30)) e c 6 (nI k)) := (((Tch.rfl'.sE (by decide) hc he).sE (by decide) hc he).sE (by decide) hc he).sE (by decide) hc he
  obtain ⟨s, o, tm, ag, lb, rm, wt, vl, bt, ⟨v0, v1, v2, v3, v4, v5, v6, v7, v8⟩, hEn, -, -⟩ := h2.ej he hc
  unfold eV at v0 v1 v2 v3 v4 v5 v6 v7 v8
  rw [hi2] at v0
  have hs0 : s = 0 := ((nI_eq (by decide) (by unfold En at hEn; omega)).mp v0).symm
  have h3 := h2.rowk (a := 1) hT (by rw [sE_11 he hc (by decide), sE_11 he hc (by decide), sE_11 he hc (by decide), sE_11 he hc (by decide)]) he hc (by
    refine ⟨1, n + 1, (if k = 1 then 3 else 30), 0, lb, rm, k, vl, bt, ?_, ?_, fun _ => ?_, fun h9 => absurd h9 (by decide)⟩
    · have hag : ag = 0 := by unfold En at hEn; omega
      rw [hag] at v3
      simp only [EV, eV, ev1, Nat.reduceLT, Nat.reduceEqDiff, if_true, if_false, oI_s, v3, v4, v5, v7, v8, Nat.zero_ne_one, and_self, and_true, true_and, Nat.one_ne_zero]
      split <;> rfl
    · unfold En at hEn ⊢
      by_cases hk1 : k = 1
      · rw [if_pos hk1]; omega
      · rw [if_neg hk1]; omega
    · rw [Nat.add_sub_cancel, hT.ci (by omega)]; exact hre2) (by
    have : chk (sE (sE (sE (sE r2 e c 0 (nI 1)) e c 1 (nI n)) e c 2 (if k = 1 then nI 3 else nI 30)) e c 6 (nI k)) e c ≤ 1 := chk_le
    omega)
  have hR3 : Rm (sE (sE (sE (sE r2 e c 0 (nI 1)) e c 1 (nI n)) e c 2 (if k = 1 then nI 3 else nI 30)) e c 6 (nI k)) 1 := (((hR2.sE he hc (by decide)).sE he hc (by decide)).sE he hc (by decide)).sE he hc (by decide)
  have h4 := h3.send (k := 0) (v := k) (x := n) (tg := (0, 0, 0)) he hc (by decide) (by omega) hA (by omega) (fun _ => ⟨by simp only [ev1, Nat.reduceLT, Nat.reduceEqDiff, if_true, if_false], by omega, by omega, by rw [hT.ci (by omega)]; exact hre2⟩) (fun h9 => absurd rfl h9) (Or.inl rfl) hR3
  refine h4.mono (fun i => ?_)
  have e0 : slot (0, 0, 0) = 0 := rfl
  have e1 : wgt X ((t + D, e, c, 0, k, n), (0, 0, 0)) = 1 := rfl
  rw [e0, e1]
  by_cases hi : i = 0
  · subst hi
    simp only [u1_s]
    omega
  · simp only [u1_n hi]
    exact Nat.le_refl _
theorem frB_t {but : Int32} (h : frB r e but c = true) : r (eI e c 0) = nI 0 := by
  unfold frB at h
  simp only [Bool.and_eq_true, decide_eq_true_eq] at h
  exact h.2.1
theorem chS_fr {e : Nat} {but : Int32} : ∀ M, ((chS r e but M).1 = -1 ∨ ∃ c, c < M ∧ frB r e but c = true ∧ (chS r e but M).1 = nI c) ∧ ((chS r e but M).2 = -1 ∨ ∃ c, c < M ∧ frB r e but c = true ∧ (chS r e but M).2 = nI c)
  | 0 => ⟨Or.inl rfl, Or.inl rfl⟩
  | N + 1 => by
    obtain ⟨h1, h2⟩ := chS_fr (e := e) (but := but) N
    have e1 : (chS r e but (N + 1)).1 = if frB r e but N = true ∧ nI (N % 2) = nI e ∧ (chS r e but N).1 = -1 then nI N else (chS r e but N).1 := rfl
    have e2 : (chS r e but (N + 1)).2 = if frB r e but N = true ∧ ¬ nI (N % 2) = nI e then nI N else (chS r e but N).2 := rfl
    refine ⟨?_, ?_⟩
    · rw [e1]
      split
      · rename_i h9
        exact Or.inr ⟨N, Nat.lt_succ_self N, h9.1, rfl⟩
      · exact h1.imp id (fun ⟨c, a, b⟩ => ⟨c, Nat.lt_succ_of_lt a, b⟩)
    · rw [e2]
      split
      · rename_i h9
        exact Or.inr ⟨N, Nat.lt_succ_self N, h9.1, rfl⟩
      · exact h2.imp id (fun ⟨c, a, b⟩ => ⟨c, Nat.lt_succ_of_lt a, b⟩)
theorem mChosen_fr {e : Nat} {but : Int32} (M : Nat) : mChosen r e but M = -1 ∨ ∃ c, c < M ∧ r (eI e c 0) = nI 0 ∧ mChosen r e but M = nI c := by
  unfold mChosen
  split
  · exact (chS_fr M).2.imp id (fun ⟨c, a, b, d⟩ => ⟨c, a, frB_t b, d⟩)
  · exact (chS_fr M).1.imp id (fun ⟨c, a, b, d⟩ => ⟨c, a, frB_t b, d⟩)
/-- a call tries again, or ends -/
theorem JG.try (hJ : JG X β T A h hb N t D r q) (hn : n < N) (hA : A.1 < t + D) (hr : Rm r 1) : JG X β T A h hb N t D (pTry r q n z).1 (pTry r q n z).2 := by
  obtain ⟨⟨C, c1, c2, c3⟩, ⟨-, hN⟩, -, h7, -⟩ := id hJ.1
  obtain ⟨og, at_, ck, b1, b2, b3, b4, b5, b6⟩ := h7 n (by omega)
  unfold pTry
  simp only [b4, b6, c3, clampN (show og < 2147483648 by omega), clampN (show ck < 2147483648 by omega), clampN (show C < 2147483648 by omega)]
  by_cases p1 : r (cI n 2) < nI 3
  · rcases mChosen_fr (r := r) (e := og) (but := r (cI n 1)) C with p2 | ⟨c, hc, hi, p2⟩
    · simp only [p1, p2, if_true]
      exact hJ.pend
    · simp only [p1, p2, if_true, nI_m1 (show c < 2147483648 by omega), if_false, clampN (show c < 2147483648 by omega)]
      rw [b5] at p1
      exact hJ.att hn b5 ((nI_ltI (by omega) (by decide)).mp p1) b1 (by omega) b3 b4 hi hA hr
  · simp only [p1, if_false, if_true]
    exact hJ.pend
end CAP3
