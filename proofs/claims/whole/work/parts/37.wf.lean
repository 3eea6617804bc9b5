/-! rows that hold what they should -/
def Cj (j : Nat) (z : Int32) : Prop := (j = 0 → ∃ N, N ≤ 12 ∧ z = nI N) ∧ (24 ≤ j → j < 240 → ((j - 24) % 9 = 0 → ∃ s, s < 8 ∧ z = nI s) ∧ ((j - 24) % 9 = 1 → okN z) ∧ ((j - 24) % 9 = 6 → ∃ k, k < 2 ∧ z = nI k) ∧ ((j - 24) % 9 = 7 → ∃ v, v < 8 ∧ z = nI v)) ∧ (240 ≤ j → ((j - 240) % 6 = 0 → ∃ e, e < 2 ∧ z = nI e) ∧ ((j - 240) % 6 = 5 → ∃ k, k < 2 ∧ z = nI k))
def WF (r : Nat → Int32) : Prop := (∀ j, j < 480 → Cj j (r j)) ∧ ∀ e c, e < 2 → c < 12 → r (eI e c 0) = nI 1 → ∃ n, n < 40 ∧ r (eI e c 1) = nI n
section WFS
variable {r : Nat → Int32} {q : Nat → Int64} {e c w n k v s j : Nat} {z z1 : Int32}
theorem eI_mod (hw : w < 9) : (eI e c w - 24) % 9 = w := by unfold eI; omega
theorem cI_mod (hw : w < 6) : (cI n w - 240) % 6 = w := by unfold cI; omega
theorem cI_ge : 240 ≤ cI n w := by unfold cI; omega
theorem eI_ge : 24 ≤ eI e c w := by unfold eI; omega
theorem WF.st (h : WF r) (he : e < 2) (hc : c < 12) : ∃ s, s < 8 ∧ r (eI e c 0) = nI s := ((h.1 _ (Nat.lt_trans (eI_lt he hc (by decide)) (by decide))).2.1 eI_ge (eI_lt he hc (by decide))).1 (eI_mod (by decide))
theorem WF.ok (h : WF r) (he : e < 2) (hc : c < 12) : okN (r (eI e c 1)) := ((h.1 _ (Nat.lt_trans (eI_lt he hc (by decide)) (by decide))).2.1 eI_ge (eI_lt he hc (by decide))).2.1 (eI_mod (by decide))
theorem WF.wt (h : WF r) (he : e < 2) (hc : c < 12) : ∃ k, k < 2 ∧ r (eI e c 6) = nI k := ((h.1 _ (Nat.lt_trans (eI_lt he hc (by decide)) (by decide))).2.1 eI_ge (eI_lt he hc (by decide))).2.2.1 (eI_mod (by decide))
theorem WF.vl (h : WF r) (he : e < 2) (hc : c < 12) : ∃ v, v < 8 ∧ r (eI e c 7) = nI v := ((h.1 _ (Nat.lt_trans (eI_lt he hc (by decide)) (by decide))).2.1 eI_ge (eI_lt he hc (by decide))).2.2.2 (eI_mod (by decide))
theorem WF.wc (h : WF r) (hn : n < 40) : WFc r n := ⟨((h.1 (cI n 0) (by unfold cI; omega)).2.2 cI_ge).1 (cI_mod (by decide)), ((h.1 (cI n 5) (by unfold cI; omega)).2.2 cI_ge).2 (cI_mod (by decide))⟩
theorem WF.wn (h : WF r) : WFN r := (h.1 0 (by decide)).1 rfl
theorem WF.u {j : Nat} (h : ∀ i, i < 480 → Cj i (r i)) (hz : Cj j z) : ∀ i, i < 480 → Cj i (u1 r j z i) := fun i hi => by
  by_cases hij : i = j
  · subst hij; rw [u1_s]; exact hz
  · rw [u1_n hij]; exact h i hi
theorem Cj_lo (h0 : j ≠ 0) (h : j < 24) : Cj j z := ⟨fun h9 => absurd h9 h0, fun h9 => by omega, fun h9 => by omega⟩
theorem Cj_e (he : e < 2) (hc : c < 12) (hw : w < 9) (h0 : w = 0 → ∃ s, s < 8 ∧ z = nI s) (h1 : w = 1 → okN z) (h6 : w = 6 → ∃ k, k < 2 ∧ z = nI k) (h7 : w = 7 → ∃ v, v < 8 ∧ z = nI v) : Cj (eI e c w) z := by
  have hm := eI_mod (e := e) (c := c) hw
  refine ⟨fun h9 => ?_, fun _ _ => ?_, fun h9 => ?_⟩
  · have := eI_ge (e := e) (c := c) (w := w); omega
  · rw [hm]; exact ⟨h0, h1, h6, h7⟩
  · have := eI_lt he hc hw; omega
theorem Cj_c (hw : w < 6) (h0 : w = 0 → ∃ s, s < 2 ∧ z = nI s) (h5 : w = 5 → ∃ k, k < 2 ∧ z = nI k) : Cj (cI n w) z := by
  have hm := cI_mod (n := n) hw
  have hg := cI_ge (n := n) (w := w)
  refine ⟨fun h9 => by omega, fun _ h9 => by omega, fun _ => ?_⟩
  rw [hm]; exact ⟨h0, h5⟩
/-- outside the ends -/
theorem WF.lo (h : WF r) (h0 : j ≠ 0) (hj : j < 24) : WF (u1 r j z) := ⟨WF.u h.1 (Cj_lo h0 hj), fun e c he hc h1 => by
  rw [u1_n (by have := eI_ge (e := e) (c := c) (w := 0); omega)] at h1
  rw [u1_n (by have := eI_ge (e := e) (c := c) (w := 1); omega)]
  exact h.2 e c he hc h1⟩
theorem WF.inc_ (h : WF r) (h0 : j ≠ 0) (hj : j < 24) : WF (inc r j) := h.lo h0 hj
theorem WF.dec_ (h : WF r) (h0 : j ≠ 0) (hj : j < 24) : WF (dec r j) := h.lo h0 hj
theorem WF.sC_ (h : WF r) (hw : w < 6) (h0 : w = 0 → ∃ s, s < 2 ∧ z = nI s) (h5 : w = 5 → ∃ k, k < 2 ∧ z = nI k) : WF (sC r n w z) := ⟨WF.u h.1 (Cj_c hw h0 h5), fun e c he hc h1 => by
  rw [sC_n (eI_lt he hc (by decide))] at h1 ⊢
  exact h.2 e c he hc h1⟩
theorem WF.sE_ (h : WF r) (he : e < 2) (hc : c < 12) (hw : w < 9) (h0 : w = 0 → ∃ s, s < 8 ∧ ¬ s = 1 ∧ z = nI s) (h1 : w = 1 → okN z ∧ ¬ r (eI e c 0) = nI 1) (h6 : w = 6 → ∃ k, k < 2 ∧ z = nI k) (h7 : w = 7 → ∃ v, v < 8 ∧ z = nI v) : WF (sE r e c w z) := by
  refine ⟨WF.u h.1 (Cj_e he hc hw (fun h9 => ?_) (fun h9 => (h1 h9).1) h6 h7), fun e' c' he' hc' hs => ?_⟩
  · obtain ⟨s, a, -, b⟩ := h0 h9
    exact ⟨s, a, b⟩
  · by_cases hE : e' = e ∧ c' = c
    · obtain ⟨rfl, rfl⟩ := hE
      by_cases w0 : w = 0
      · subst w0
        obtain ⟨s, a, b, d⟩ := h0 rfl
        rw [sE_s, d, nI_eq (by omega) (by decide)] at hs
        exact absurd hs b
      · rw [sE_e (by omega) he hw he' (by decide)] at hs
        by_cases w1 : w = 1
        · subst w1
          exact absurd hs (h1 rfl).2
        · rw [sE_e (by omega) he hw he' (by decide)]
          exact h.2 _ _ he' hc' hs
    · rw [sE_e (by omega) he hw he' (by decide)] at hs ⊢
      exact h.2 e' c' he' hc' hs
/-- a free field of an end -/
theorem WF.sF_ (h : WF r) (he : e < 2) (hc : c < 12) (hw : w < 9) (hf : w = 2 ∨ w = 3 ∨ w = 4 ∨ w = 5 ∨ w = 8) : WF (sE r e c w z) := h.sE_ he hc hw (fun h9 => by omega) (fun h9 => by omega) (fun h9 => by omega) (fun h9 => by omega)
theorem WF.e0 (h : WF r) (he : e < 2) (hc : c < 12) (hs : s < 8) (h1 : ¬ s = 1) : WF (sE r e c 0 (nI s)) := h.sE_ he hc (by decide) (fun _ => ⟨s, hs, h1, rfl⟩) (fun h9 => by cases h9) (fun h9 => by cases h9) (fun h9 => by cases h9)
theorem WF.e1 (h : WF r) (he : e < 2) (hc : c < 12) (hz : okN z) (h1 : ¬ r (eI e c 0) = nI 1) : WF (sE r e c 1 z) := h.sE_ he hc (by decide) (fun h9 => by cases h9) (fun _ => ⟨hz, h1⟩) (fun h9 => by cases h9) (fun h9 => by cases h9)
theorem WF.e6 (h : WF r) (he : e < 2) (hc : c < 12) (hk : k < 2) : WF (sE r e c 6 (nI k)) := h.sE_ he hc (by decide) (fun h9 => by cases h9) (fun h9 => by cases h9) (fun _ => ⟨k, hk, rfl⟩) (fun h9 => by cases h9)
theorem WF.e7 (h : WF r) (he : e < 2) (hc : c < 12) (hk : v < 8) : WF (sE r e c 7 (nI v)) := h.sE_ he hc (by decide) (fun h9 => by cases h9) (fun h9 => by cases h9) (fun h9 => by cases h9) (fun _ => ⟨v, hk, rfl⟩)
theorem WF.fC_ (h : WF r) (hw : w < 6) (hf : w = 1 ∨ w = 2 ∨ w = 3 ∨ w = 4) : WF (sC r n w z) := h.sC_ hw (fun h9 => by omega) (fun h9 => by omega)
theorem WF.send (h : WF r) (he : e < 2) : WF (pSend r q e c k v).1 := by
  unfold pSend mSends
  split
  · exact ((h.inc_ (by decide) (by decide)).dec_ (by omega) (by omega)).inc_ (by decide) (by decide)
  · exact (h.inc_ (by decide) (by decide)).inc_ (by decide) (by decide)
theorem WF.pend (h : WF r) : WF (pEnd r n z) := (h.fC_ (by decide) (by decide)).fC_ (by decide) (by decide)
theorem WF.pendO (h : WF r) : WF (pEndO r z z1) := by
  unfold pEndO
  split
  · exact h
  · exact h.pend
theorem st_ne (he : e < 2) (hw : w < 9) (h0 : ¬ w = 0) (h : ¬ r (eI e c 0) = nI 1) : ¬ sE r e c w z (eI e c 0) = nI 1 := by
  rw [sE_e (by omega) he hw he (by decide)]
  exact h
theorem WF.idle (h : WF r) (he : e < 2) (hc : c < 12) : WF (pIdle r e c) := by
  unfold pIdle
  have h0 : WF (sE r e c 0 (nI 0)) := h.e0 he hc (by decide) (by decide)
  have s0 : ¬ sE r e c 0 (nI 0) (eI e c 0) = nI 1 := by rw [sE_s]; decide
  have h1 : WF (sE (sE r e c 0 (nI 0)) e c 1 (-1)) := h0.e1 he hc (Or.inl rfl) s0
  exact ((h1.sF_ he hc (by decide) (by decide)).sF_ he hc (by decide) (by decide)).e6 he hc (by decide)
theorem WF.aw (h : WF r) (he : e < 2) (hc : c < 12) (hs : s < 8) (h1 : ¬ s = 1) : WF (pAw r e c (nI s) z1) := by
  unfold pAw
  have h0 : WF (sE r e c 0 (nI s)) := h.e0 he hc hs h1
  have s0 : ¬ sE r e c 0 (nI s) (eI e c 0) = nI 1 := by rw [sE_s, nI_eq (by omega) (by decide)]; exact h1
  have h2 : WF (sE (sE r e c 0 (nI s)) e c 1 (-1)) := h0.e1 he hc (Or.inl rfl) s0
  exact (h2.sF_ he hc (by decide) (by decide)).e6 he hc (by decide)
theorem WF.rel (h : WF r) (he : e < 2) (hc : c < 12) (hv : v < 8) : WF (pRel r q e c v).1 := by
  unfold pRel
  refine WF.aw ?_ he hc (by decide) (by decide)
  refine WF.e7 ?_ he hc hv
  exact ((h.send he).pendO).sF_ he hc (by decide) (by decide)
theorem WF.rst (h : WF r) (he : e < 2) (hc : c < 12) : WF (pRst r q e c).1 := by
  unfold pRst
  refine WF.aw ?_ he hc (by decide) (by decide)
  exact ((h.pendO).send he).sF_ he hc (by decide) (by decide)
/-- a state and its call, set together -/
theorem WF.sES (h : WF r) (he : e < 2) (hc : c < 12) (hs : s < 8) (hn : n < 40) : WF (sE (sE r e c 0 (nI s)) e c 1 (nI n)) := by
  refine ⟨WF.u (WF.u h.1 (Cj_e he hc (by decide) (fun _ => ⟨s, hs, rfl⟩) (fun h9 => by cases h9) (fun h9 => by cases h9) (fun h9 => by cases h9))) (Cj_e he hc (by decide) (fun h9 => by cases h9) (fun _ => Or.inr ⟨n, hn, rfl⟩) (fun h9 => by cases h9) (fun h9 => by cases h9)), fun e' c' he' hc' h1 => ?_⟩
  by_cases hE : e' = e ∧ c' = c
  · obtain ⟨rfl, rfl⟩ := hE
    exact ⟨n, hn, sE_s⟩
  · rw [sE_e (by omega) he (by decide) he' (by decide), sE_e (by omega) he (by decide) he' (by decide)] at h1 ⊢
    exact h.2 e' c' he' hc' h1
theorem WF.att (h : WF r) (hn : n < 40) (he : e < 2) (hk : k < 2) (hc : c < 12) : WF (pAtt r q n e k c).1 := by
  unfold pAtt
  refine WF.send ?_ he
  refine WF.e6 ?_ he hc hk
  refine WF.sF_ ?_ he hc (by decide) (by decide)
  refine WF.sES ?_ he hc (by decide) hn
  exact (((h.fC_ (by decide) (by decide)).fC_ (by decide) (by decide)).fC_ (by decide) (by decide)).inc_ (by decide) (by decide)
theorem WF.try (h : WF r) (hn : n < 40) : WF (pTry r q n z).1 := by
  obtain ⟨⟨e, he, hre⟩, k, hk, hrk⟩ := h.wc hn
  obtain ⟨N, hN2, hN⟩ := h.wn
  unfold pTry
  simp only [hre, hrk, hN, clampN (show e < 2147483648 by omega), clampN (show k < 2147483648 by omega), clampN (show N < 2147483648 by omega)]
  by_cases p1 : r (cI n 2) < nI 3
  · rcases mChosen_ok (r := r) (e := e) (but := r (cI n 1)) N with p2 | ⟨c, hc, p2⟩
    · simp only [p1, p2, if_true]
      exact h.pend
    · simp only [p1, p2, if_true, nI_m1 (show c < 2147483648 by omega), if_false, clampN (show c < 2147483648 by omega)]
      exact h.att hn he hk (by omega)
  · simp only [p1, if_false, if_true]
    exact h.pend
/-- all well but, maybe, at one end -/
def WFx (r : Nat → Int32) (e c : Nat) : Prop := (∀ j, j < 480 → Cj j (r j)) ∧ ∀ e' c', e' < 2 → c' < 12 → ¬ (e' = e ∧ c' = c) → r (eI e' c' 0) = nI 1 → ∃ n, n < 40 ∧ r (eI e' c' 1) = nI n
theorem WF.x (h : WF r) : WFx r e c := ⟨h.1, fun e' c' he' hc' _ => h.2 e' c' he' hc'⟩
theorem WFx.fin (h : WFx r e c) (hs : ¬ r (eI e c 0) = nI 1) : WF r := ⟨h.1, fun e' c' he' hc' h1 => by
  by_cases hE : e' = e ∧ c' = c
  · obtain ⟨rfl, rfl⟩ := hE
    exact absurd h1 hs
  · exact h.2 e' c' he' hc' hE h1⟩
theorem WFx.up (h : WFx r e c) (he : e < 2) (hw : w < 9) (hz : Cj (eI e c w) z) : WFx (sE r e c w z) e c := ⟨WF.u h.1 hz, fun e' c' he' hc' hE h1 => by
  rw [sE_e (by omega) he hw he' (by decide)] at h1 ⊢
  exact h.2 e' c' he' hc' hE h1⟩
theorem WFx.lo (h : WFx r e c) (h0 : j ≠ 0) (hj : j < 24) : WFx (u1 r j z) e c := ⟨WF.u h.1 (Cj_lo h0 hj), fun e' c' he' hc' hE h1 => by
  rw [u1_n (by have := eI_ge (e := e') (c := c') (w := 0); omega)] at h1
  rw [u1_n (by have := eI_ge (e := e') (c := c') (w := 1); omega)]
  exact h.2 e' c' he' hc' hE h1⟩
theorem WFx.cc (h : WFx r e c) (hw : w < 6) (hf : w = 1 ∨ w = 2 ∨ w = 3 ∨ w = 4) : WFx (sC r n w z) e c := ⟨WF.u h.1 (Cj_c hw (fun h9 => by omega) (fun h9 => by omega)), fun e' c' he' hc' hE h1 => by
  rw [sC_n (eI_lt he' hc' (by decide))] at h1 ⊢
  exact h.2 e' c' he' hc' hE h1⟩
theorem WFx.send {c' : Nat} (h : WFx r e c) (he : e < 2) : WFx (pSend r q e c' k v).1 e c := by
  unfold pSend mSends
  split
  · exact ((h.lo (by decide) (by decide)).lo (by omega) (by omega)).lo (by decide) (by decide)
  · exact (h.lo (by decide) (by decide)).lo (by decide) (by decide)
theorem WFx.pendO (h : WFx r e c) : WFx (pEndO r z z1) e c := by
  unfold pEndO pEnd
  split
  · exact h
  · exact (h.cc (by decide) (by decide)).cc (by decide) (by decide)
theorem Cj_f (he : e < 2) (hc : c < 12) (hw : w < 9) (hf : w = 2 ∨ w = 3 ∨ w = 4 ∨ w = 5 ∨ w = 8) : Cj (eI e c w) z := Cj_e he hc hw (fun h9 => by omega) (fun h9 => by omega) (fun h9 => by omega) (fun h9 => by omega)
theorem Cj_0 (he : e < 2) (hc : c < 12) (hs : s < 8) : Cj (eI e c 0) (nI s) := Cj_e he hc (by decide) (fun _ => ⟨s, hs, rfl⟩) (fun h9 => by cases h9) (fun h9 => by cases h9) (fun h9 => by cases h9)
theorem Cj_1 (he : e < 2) (hc : c < 12) (hz : okN z) : Cj (eI e c 1) z := Cj_e he hc (by decide) (fun h9 => by cases h9) (fun _ => hz) (fun h9 => by cases h9) (fun h9 => by cases h9)
theorem Cj_6 (he : e < 2) (hc : c < 12) (hk : k < 2) : Cj (eI e c 6) (nI k) := Cj_e he hc (by decide) (fun h9 => by cases h9) (fun h9 => by cases h9) (fun _ => ⟨k, hk, rfl⟩) (fun h9 => by cases h9)
theorem Cj_7 (he : e < 2) (hc : c < 12) (hv : v < 8) : Cj (eI e c 7) (nI v) := Cj_e he hc (by decide) (fun h9 => by cases h9) (fun h9 => by cases h9) (fun h9 => by cases h9) (fun _ => ⟨v, hv, rfl⟩)
theorem WFx.relx (h : WFx r e c) (he : e < 2) (hc : c < 12) (hv : v < 8) : WF (pRel r q e c v).1 := by
  unfold pRel pAw
  refine WFx.fin (e := e) (c := c) (((((((h.send he).pendO).up he (by decide) (Cj_f he hc (by decide) (by decide))).up he (by decide) (Cj_7 he hc hv)).up he (by decide) (Cj_0 he hc (by decide))).up he (by decide) (Cj_1 he hc (Or.inl rfl))).up he (by decide) (Cj_f he hc (by decide) (by decide)) |>.up he (by decide) (Cj_6 he hc (show 0 < 2 by decide))) ?_
  exact st_ne he (by decide) (by decide) (st_ne he (by decide) (by decide) (st_ne he (by decide) (by decide) (by rw [sE_s]; decide)))
theorem WFx.sz2 (h : WFx r e c) (he : e < 2) (hc : c < 12) (hv : v < 2) (hn : n < 40) : WF (pSz2 r q e c v n).1 := by
  unfold pSz2
  split
  · exact WFx.relx (h.pendO.up he (by decide) (Cj_1 he hc (Or.inl rfl))) he hc (by decide)
  · refine WFx.fin (e := e) (c := c) ((((h.pendO.up he (by decide) (Cj_0 he hc (show 2 < 8 by decide))).up he (by decide) (Cj_1 he hc (Or.inr ⟨n, hn, rfl⟩))).up he (by decide) (Cj_f he hc (by decide) (by decide))).up he (by decide) (Cj_6 he hc hv)) ?_
    exact st_ne he (by decide) (by decide) (st_ne he (by decide) (by decide) (st_ne he (by decide) (by decide) (by rw [sE_s]; decide)))
theorem Rm.sE (h : Rm r j) (he : e < 2) (hc : c < 12) (hw : w < 9) : Rm (sE r e c w z) j := h.mono (sE_n (Or.inl (by decide)) he hc hw) (Nat.le_refl j)
theorem Rm.pendO (h : Rm r j) : Rm (pEndO r z z1) j := h.mono (pEndO_n (by decide)) (Nat.le_refl j)
theorem Rm.rel {x : Nat} (h : Rm r (x + 1)) (he : e < 2) (hc : c < 12) : Rm (pRel r q e c v).1 x := by
  unfold pRel pAw
  exact ((((((h.send (Nat.le_refl _) he).pendO).sE he hc (by decide)).sE he hc (by decide)).sE he hc (by decide)).sE he hc (by decide)).sE he hc (by decide) |>.sE he hc (by decide)
theorem Rm.sz2 {x : Nat} (h : Rm r (x + 1)) (he : e < 2) (hc : c < 12) : Rm (pSz2 r q e c v n).1 x := by
  unfold pSz2
  split
  · exact (h.pendO.sE he hc (by decide)).rel he hc
  · exact ((((h.pendO.mono rfl (Nat.le_succ x)).sE he hc (by decide)).sE he hc (by decide)).sE he hc (by decide)).sE he hc (by decide)
theorem WF.sz (h : WF r) (he : e < 2) (hc : c < 12) (hv : v < 2) (hn : n < 40) : WF (pSz r q e c v n).1 := by
  have hx : WFx (sE (inc r 8) e c 1 (-1)) e c := ((h.x (e := e) (c := c)).lo (by decide) (by decide)).up he (by decide) (Cj_1 he hc (Or.inl rfl))
  unfold pSz
  split
  · split
    · exact h.inc_ (by decide) (by decide)
    · split
      · exact hx.sz2 he hc hv hn
      · rename_i h9
        rcases h.ok he hc with ho | ⟨n', hn', ho⟩
        · exact absurd ho h9
        · rw [ho, clampN (by omega)]
          exact (hx.sz2 he hc hv hn).try hn'
  · split
    · exact h
    · exact h.x.sz2 he hc hv hn
end WFS
