/-! what holds between calls, kept by each call -/
section INV
variable {X : Nat → Nat → Nat} {β β' T h hb : Nat → Nat} {A : Nat × Nat} {N t D D' e c w k v n j i x s a b p B B' J d C : Nat} {r r' : Nat → Int32} {q q' : Nat → Int64} {z : Int32} {tg : Tg}
theorem std_mono (h : B ≤ B') : ∀ s, std B s ≤ std B' s := fun s => by
  unfold std
  split
  · exact h
  · exact Nat.le_refl _
theorem JI.mono (hJ : JI X B N t D r q) (h : B ≤ B') : JI X B' N t D r q := by
  obtain ⟨f, fb, hJ⟩ := hJ
  exact ⟨f, fb, JG.mono hJ (std_mono h)⟩
theorem std_ad : ∀ i, ad (std B) 0 a i ≤ std (B + a) i := fun i => by
  unfold ad
  by_cases hi : i = 0
  · subst hi; rw [u1_s]; exact Nat.le_refl _
  · rw [u1_n hi]; unfold std; rw [if_neg hi, if_neg hi]; exact Nat.le_refl _
theorem EJ.same' (hE : EJ X T h hb N r e c) (hN : N ≤ 40) (hv : ∀ w, w < 9 → r' (eI e c w) = r (eI e c w)) (hc : ∀ n, n < N → r' (cI n 0) = r (cI n 0)) : EJ X T h hb N r' e c := by
  obtain ⟨s, o, tm, ag, lb, rm, wt, vl, bt, b1, b2, b3, b4⟩ := hE
  have ho : o ≤ N := b2.1.2.1
  refine ⟨s, o, tm, ag, lb, rm, wt, vl, bt, b1.congr hv, b2, fun h9 => ?_, fun h9 => ?_⟩
  · have := b2.2.1 h9
    rw [hc _ (by omega)]; exact b3 h9
  · have := b2.2.2.1 h9
    rw [hc _ (by omega)]; exact b4 h9
/-- rows that are the same where it counts -/
theorem JG.eqv (hJ : JG X β T A h hb N t D r q) (hs : ∀ j, j < 480 → r' j = r j) (hq : ∀ n, r 11 = nI n → n < 1000000 → ∀ i, i < n → q' i = q i) : JG X β T A h hb N t D r' q' := by
  obtain ⟨⟨⟨C, b1, b2, b3⟩, ⟨b4, b5⟩, b6, b7, b8⟩, ⟨a2, a3, a4, a5⟩, G, n, a6, a7, a8, a9⟩ := hJ
  have hc : ∀ {n w}, n < 40 → w < 6 → r' (cI n w) = r (cI n w) := fun {n w} hn hw => hs _ (by unfold cI; omega)
  have he : ∀ {e c w}, e < 2 → c < 12 → w < 9 → r' (eI e c w) = r (eI e c w) := fun {e c w} he hc hw => hs _ (by have := eI_lt he hc hw; omega)
  refine ⟨⟨⟨C, b1, b2, (hs 0 (by omega)).trans b3⟩, ⟨(hs 5 (by omega)).trans b4, b5⟩, fun c' hc' => ?_, fun n hn => ?_, fun e' c' he' hc' => (b8 e' c' he' hc').same' b5 (fun w hw => he he' hc' hw) (fun n hn => hc (by omega) (by decide))⟩, ⟨(hs 2 (by decide)).trans a2, a3, (hs 1 (by decide)).trans a4, a5⟩, G, n, (hs 11 (by decide)).trans a6, a7, ⟨fun i hi => ?_, a8.2⟩, fun s => ?_⟩
  · rw [hs (12 + c') (by omega)]; exact b6 c' hc'
  · rw [hc hn (by decide), hc hn (by decide), hc hn (by decide)]; exact b7 n hn
  · obtain ⟨d1, d2, d3, d4⟩ := a8.1 i hi
    obtain ⟨f1, f2, f3, f4, f5, f6, f7⟩ := d2
    exact ⟨(hq n a6 a7.2 i hi).trans d1, ⟨f1, f2, f3, f4, f5, f6, fun h0 => by rw [hc f6 (by decide)]; exact f7 h0⟩, d3, d4⟩
  · have hP : RP r' N = RP r N := by
      unfold RP
      rw [sumN_congr N (f := fun n => 3 - (r' (cI n 2)).toNatClampNeg) (f' := fun n => 3 - (r (cI n 2)).toNatClampNeg) (fun n hn => by show 3 - (r' (cI n 2)).toNatClampNeg = _; rw [hc (by omega) (by decide)]), sumN_congr (f := fun x => chk r' (x / 12) (x % 12)) (f' := fun x => chk r (x / 12) (x % 12)) 24 (fun x hx => by show chk r' (x / 12) (x % 12) = _; unfold chk; rw [he (by omega) (by omega) (by decide), he (by omega) (by omega) (by decide)])]
    rw [hP]; exact a9 s
theorem JI.undo {s : PS} (hJ : JI X B N t D s.1 s.2) : JI X B N t D (pUn r q s).1 (pUn r q s).2 := by
  obtain ⟨f, fb, hJ⟩ := hJ
  refine ⟨f, fb, hJ.eqv (fun j hj => ?_) (fun n h1 h2 i hi => ?_)⟩
  · have := cp_in (P := r) (a := 0) (F := s.1) hj
    rw [Nat.zero_add] at this; exact this
  · show cp q 0 (nM s.1) s.2 i = s.2 i
    have h3 : nM s.1 = n := by unfold nM; rw [h1]; exact clampN (by omega)
    rw [h3]
    have := cp_in (P := q) (a := 0) (F := s.2) hi
    rw [Nat.zero_add] at this; exact this
theorem JI.delay (hJ : JI X B N t D r q) (h1 : 1 ≤ D') (h2 : D' ≤ 20) : JI X B N t D' (u1 r 1 (nI D')) q := by
  obtain ⟨f, fb, a1, ⟨a2, a3, a4, a5⟩, G, n, a6, a7, a8, a9⟩ := hJ
  exact ⟨f, fb, a1.same (fun j hj => u1_n (by omega)), ⟨(u1_n (by decide)).trans a2, a3, u1_s, h1, h2⟩, G, n, (u1_n (by decide)).trans a6, a7, a8.congr (fun n _ => u1_n (by have := cI_ge (n := n) (w := 0); omega)), fun s => by rw [RP.same (fun j hj => u1_n (by omega))]; exact a9 s⟩
theorem JI.lose (hJ : JI X B N t D r q) (he : e < 2) : JI X B N t D (u1 r (3 + e) z) q := by
  obtain ⟨f, fb, hJ⟩ := hJ
  exact ⟨f, fb, hJ.lo (by omega)⟩
theorem JI.faulty (hJ : JI X B N t D r q) (hc : c < 12) (hk : k < 2) : JI X B N t D (u1 r (12 + c) (nI k)) q := by
  obtain ⟨f, fb, ⟨⟨C, b1, b2, b3⟩, ⟨b4, b5⟩, b6, b7, b8⟩, ⟨a2, a3, a4, a5⟩, G, n, a6, a7, a8, a9⟩ := hJ
  have hs : ∀ {j}, ¬ j = 12 + c → u1 r (12 + c) (nI k) j = r j := fun hj => u1_n hj
  have hcc : ∀ {n w}, u1 r (12 + c) (nI k) (cI n w) = r (cI n w) := fun {n w} => hs (by have := cI_ge (n := n) (w := w); omega)
  have he : ∀ {e c' w}, u1 r (12 + c) (nI k) (eI e c' w) = r (eI e c' w) := fun {e c' w} => hs (by have := eI_ge (e := e) (c := c') (w := w); omega)
  refine ⟨f, fb, ⟨⟨C, b1, b2, (hs (by omega)).trans b3⟩, ⟨(hs (by omega)).trans b4, b5⟩, fun c' hc' => ?_, fun n hn => ?_, fun e' c' he' hc' => (b8 e' c' he' hc').same (fun w _ => he) (fun n => hcc)⟩, ⟨(hs (by omega)).trans a2, a3, (hs (by omega)).trans a4, a5⟩, G, n, (hs (by omega)).trans a6, a7, a8.congr (fun n _ => hcc), fun s => ?_⟩
  · by_cases h9 : c' = c
    · subst h9; exact ⟨k, hk, u1_s⟩
    · rw [hs (by omega)]; exact b6 c' hc'
  · rw [hcc, hcc, hcc]; exact b7 n hn
  · have hP : RP (u1 r (12 + c) (nI k)) N = RP r N := by
      unfold RP
      rw [sumN_congr N (f := fun n => 3 - (u1 r (12 + c) (nI k) (cI n 2)).toNatClampNeg) (f' := fun n => 3 - (r (cI n 2)).toNatClampNeg) (fun n hn => by show 3 - (u1 r (12 + c) (nI k) (cI n 2)).toNatClampNeg = _; rw [hcc]), sumN_congr (f := fun x => chk (u1 r (12 + c) (nI k)) (x / 12) (x % 12)) (f' := fun x => chk r (x / 12) (x % 12)) 24 (fun x hx => by show chk (u1 r (12 + c) (nI k)) (x / 12) (x % 12) = _; unfold chk; rw [he, he])]
    rw [hP]; exact a9 s
theorem noneS_n {f : Nat → Int32} : ∀ k, (∀ i, i < k → ¬ j = 24 + 9 * i + 1) → noneS f k j = f j
  | 0, _ => rfl
  | k + 1, h => by
    show u1 (noneS f k) (24 + 9 * k + 1) (-1) j = f j
    rw [u1_n (h k (Nat.lt_succ_self k))]
    exact noneS_n k (fun i hi => h i (Nat.lt_succ_of_lt hi))
theorem noneS_s {f : Nat → Int32} : ∀ k, i < k → noneS f k (24 + 9 * i + 1) = -1
  | 0, h => by omega
  | k + 1, h => by
    show u1 (noneS f k) (24 + 9 * k + 1) (-1) (24 + 9 * i + 1) = -1
    by_cases h1 : i = k
    · subst h1; exact u1_s
    · rw [u1_n (by omega)]; exact noneS_s k (by omega)
theorem beg_v (h1 : ¬ j = 0) (h2 : ¬ j = 1) (h3 : j < 480) (h4 : ∀ i, i < 24 → ¬ j = 24 + 9 * i + 1) : pBeg r z j = nI 0 := by
  unfold pBeg
  rw [noneS_n 24 h4, u1_n h2, u1_n h1]
  have := cp_in (P := r) (a := 0) (F := fun _ => nI 0) h3
  rw [Nat.zero_add] at this; exact this
theorem beg_0 : pBeg r z 0 = z := by
  unfold pBeg
  rw [noneS_n 24 (fun i hi => by omega), u1_n (by decide), u1_s]
theorem beg_1 : pBeg r z 1 = r 1 := by
  unfold pBeg
  rw [noneS_n 24 (fun i hi => by omega), u1_s]
theorem beg_of (he : e < 2) (hc : c < 12) : pBeg r z (eI e c 1) = -1 := by
  unfold pBeg
  have := noneS_s (f := u1 (u1 (cp r 0 480 (fun _ => nI 0)) 0 z) 1 (r 1)) (i := 2 * c + e) 24 (by omega)
  exact this
theorem beg_e (he : e < 2) (hc : c < 12) (hw : w < 9) (h1 : ¬ w = 1) : pBeg r z (eI e c w) = nI 0 := beg_v (by have := eI_ge (e := e) (c := c) (w := w); omega) (by have := eI_ge (e := e) (c := c) (w := w); omega) (by have := eI_lt he hc hw; omega) (fun i hi => by unfold eI; omega)
theorem beg_c (hn : n < 40) (hw : w < 6) : pBeg r z (cI n w) = nI 0 := beg_v (by unfold cI; omega) (by unfold cI; omega) (by unfold cI; omega) (fun i hi => by unfold cI; omega)
theorem beg_lo (h1 : ¬ j = 0) (h2 : ¬ j = 1) (h3 : j < 25) : pBeg r z j = nI 0 := beg_v h1 h2 (by omega) (fun i hi => by omega)
theorem EJ.new (hE : ∀ w, w < 9 → r (eI e c w) = if w = 1 then -1 else nI 0) : EJ X (fun _ => 0) (fun _ => 0) (fun _ => 0) N r e c := by
  refine ⟨0, 0, 0, 0, 0, 0, 0, 0, 0, ?_, ?_, fun h9 => absurd h9 (by decide), fun h9 => absurd h9 (by decide)⟩
  · unfold EV eV
    exact ⟨hE 0 (by decide), hE 1 (by decide), hE 2 (by decide), hE 3 (by decide), hE 4 (by decide), hE 5 (by decide), hE 6 (by decide), hE 7 (by decide), hE 8 (by decide)⟩
  · show En N e (X e c) 0 0 0 0 0 0 0 0 0 0 0 0 0
    unfold En; omega
/-- a state as it begins -/
theorem JI.new (h0 : r 0 = nI C) (hC1 : 1 ≤ C) (hC : C ≤ 12) (h1 : r 1 = nI D) (hD1 : 1 ≤ D) (hD : D ≤ 20) (hl : ∀ j, ¬ j = 0 → ¬ j = 1 → j < 24 → r j = nI 0) (hE : ∀ e c w, e < 2 → c < 12 → w < 9 → r (eI e c w) = if w = 1 then -1 else nI 0) (hc : ∀ n w, n < 40 → w < 6 → r (cI n w) = nI 0) : JI X B 0 0 D r q := by
  refine ⟨fun _ => 0, fun _ => 0, ⟨⟨C, hC1, hC, h0⟩, ⟨hl 5 (by decide) (by decide) (by decide), by decide⟩, fun c' hc' => ⟨0, by decide, hl (12 + c') (by omega) (by omega) (by omega)⟩, fun n hn => ⟨0, 0, 0, by decide, by decide, by decide, hc n 0 hn (by decide), hc n 2 hn (by decide), hc n 5 hn (by decide)⟩, fun e' c' he' hc' => EJ.new (fun w hw => hE e' c' w he' hc' hw)⟩, ⟨hl 2 (by decide) (by decide) (by decide), by decide, h1, hD1, hD⟩, fun _ => ((0, 0, 0, 0, 0, 0), (0, 0, 0)), 0, hl 11 (by decide) (by decide) (by decide), ⟨by decide, by decide⟩, ⟨fun i hi => by omega, fun i j _ hj => by omega⟩, fun s => ?_⟩
  have hP : RP r 0 = 0 := by
    unfold RP
    rw [sumN_congr (f := fun x => chk r (x / 12) (x % 12)) (f' := fun _ => 0) 24 (fun x hx => by
      show chk r (x / 12) (x % 12) = 0
      refine chk_0 (Or.inl ?_)
      rw [hE _ _ 0 (by omega) (by omega) (by decide)]; decide), sum_const]
    rfl
  show Wt X s _ 0 + (if s = 0 then RP r 0 else 0) ≤ std B s
  rw [hP]
  show 0 + (if s = 0 then 0 else 0) ≤ _
  split <;> omega
theorem JI.beg (hJ : JI X B N t D r q) (hC1 : 1 ≤ C) (hC : C ≤ 12) : JI X B' 0 0 D (pBeg r (nI C)) q' := by
  obtain ⟨f, fb, -, ⟨-, -, a4, a5, a6⟩, -⟩ := hJ
  exact JI.new beg_0 hC1 hC (beg_1.trans a4) a5 a6 (fun j g1 g2 g3 => beg_lo g1 g2 (by omega)) (fun e c w he hc hw => by
    by_cases h1 : w = 1
    · subst h1; rw [if_pos rfl]; exact beg_of he hc
    · rw [if_neg h1]; exact beg_e he hc hw h1) (fun n w hn hw => beg_c hn hw)
end INV
