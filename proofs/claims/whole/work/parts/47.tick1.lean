/-! the reference: a tick -/
def dE (m : Int64) : Int32 := (m / lN 131072 - m / lN 131072 / lN 2 * lN 2).toInt32
def dC (m : Int64) : Int32 := (m / lN 8192 - m / lN 8192 / lN 16 * lN 16).toInt32
def dK (m : Int64) : Int32 := (m / lN 512 - m / lN 512 / lN 16 * lN 16).toInt32
def dV (m : Int64) : Int32 := (m / lN 64 - m / lN 64 / lN 8 * lN 8).toInt32
def dN (m : Int64) : Int32 := (m - m / lN 64 * lN 64).toInt32
def popQ {α : Type} (q : Nat → α) (n : Nat) : Nat → α := fun i => if i < n then q (i + 1) else q i
/-- how many of the first messages arrive then -/
def led (q : Nat → Int64) (a : Int64) : Nat → Nat
  | 0 => 0
  | n + 1 => if led q a n = n ∧ q n / lN 262144 = a then n + 1 else led q a n
def pRv1 (r : Nat → Int32) (q : Nat → Int64) (m : Int64) : PS := pRv (dec r 11) (popQ q (nM (dec r 11))) (1 - (dE m).toNatClampNeg) (dC m).toNatClampNeg (dK m).toNatClampNeg (dV m).toNatClampNeg (dN m).toNatClampNeg
def pDue : Nat → PS → PS
  | 0, p => p
  | J + 1, p => pDue J (pRv1 p.1 p.2 (p.2 0))
def pTms (e : Nat) : Nat → Nat → PS → PS
  | 0, _, p => p
  | j + 1, c, p => if nI c < p.1 0 then pTms e j (c + 1) (pTm p.1 p.2 e c) else p
def pJ (r : Nat → Int32) (q : Nat → Int64) : Nat := led q (r 2 + nI 1).toInt64 (nM r)
def pTk (p : PS) : PS := pTms 1 12 0 (pTms 0 12 0 (pDue (pJ p.1 p.2) (inc p.1 2, p.2)))
section TK1
variable {X : Nat → Nat → Nat} {β β' T T' h hb : Nat → Nat} {A : Nat × Nat} {N t D e c w k v n j x s a p B J d : Nat} {r r' r1 : Nat → Int32} {q q' : Nat → Int64} {z z1 : Int32} {G : Nat → GM} {tg : Tg} {m : Ms} {M : Int64} {gh : Gh} {mi : MI} {ml : ML} {mr : MR}
theorem lN_32 : (lN n).toInt32 = nI n := by
  unfold lN nI
  exact Int64.toInt32_ofNat' 
theorem m_exO : callT (d + 1) mX5_exchangeOf [.long M] (gh, mi, ml, mr) = some (.inl (some (.int (dE M))), gh, mi, ml, mr) := by
  rw [eX5_exchangeOf]
  have h1 : ¬ lN 131072 = 0 := by decide
  have h2 : ¬ lN 2 = 0 := by decide
  simp only [wX5_exchangeOf_0, wX5_exchangeOf_1, wX5_exchangeOf_4, wX5_exchangeOf_5, wX5_exchangeOf_8, wX5_exchangeOf_9, wX5_exchangeOf_10, h1, h2, not_false_iff, dE]
theorem m_ciO : callT (d + 1) mX5_circuitOf [.long M] (gh, mi, ml, mr) = some (.inl (some (.int (dC M))), gh, mi, ml, mr) := by
  rw [eX5_circuitOf]
  have h1 : ¬ lN 8192 = 0 := by decide
  have h2 : ¬ lN 16 = 0 := by decide
  simp only [wX5_circuitOf_0, wX5_circuitOf_1, wX5_circuitOf_4, wX5_circuitOf_5, wX5_circuitOf_8, wX5_circuitOf_9, wX5_circuitOf_10, h1, h2, not_false_iff, dC]
theorem m_kiO : callT (d + 1) mX5_kindOf [.long M] (gh, mi, ml, mr) = some (.inl (some (.int (dK M))), gh, mi, ml, mr) := by
  rw [eX5_kindOf]
  have h1 : ¬ lN 512 = 0 := by decide
  have h2 : ¬ lN 16 = 0 := by decide
  simp only [wX5_kindOf_0, wX5_kindOf_1, wX5_kindOf_4, wX5_kindOf_5, wX5_kindOf_8, wX5_kindOf_9, wX5_kindOf_10, h1, h2, not_false_iff, dK]
theorem m_vaO : callT (d + 1) mX5_valueOf [.long M] (gh, mi, ml, mr) = some (.inl (some (.int (dV M))), gh, mi, ml, mr) := by
  rw [eX5_valueOf]
  have h1 : ¬ lN 64 = 0 := by decide
  have h2 : ¬ lN 8 = 0 := by decide
  simp only [wX5_valueOf_0, wX5_valueOf_1, wX5_valueOf_4, wX5_valueOf_5, wX5_valueOf_8, wX5_valueOf_9, wX5_valueOf_10, h1, h2, not_false_iff, dV]
/-- a message within its bounds -/
def okM (m : Ms) : Prop := m.1 < 1000000 ∧ m.2.1 < 2 ∧ m.2.2.1 < 12 ∧ m.2.2.2.1 < 14 ∧ m.2.2.2.2.1 < 8 ∧ m.2.2.2.2.2 < 40 ∧ (m.2.2.2.1 = 0 → m.2.2.2.2.1 < 2)
theorem okG.ms {g : GM} (hk : okG N r g) : okM g.1 := ⟨hk.1, hk.2.1, hk.2.2.1, hk.2.2.2.1, hk.2.2.2.2.1, hk.2.2.2.2.2.1, fun h9 => (hk.2.2.2.2.2.2 h9).1⟩
theorem okM.b (hk : okM m) : ((((m.1 * 2 + m.2.1) * 16 + m.2.2.1) * 16 + m.2.2.2.1) * 8 + m.2.2.2.2.1) * 64 + m.2.2.2.2.2 < 2 ^ 63 := encB hk.1 hk.2.1 hk.2.2.1 hk.2.2.2.1 hk.2.2.2.2.1 hk.2.2.2.2.2.1
theorem okM.ar (hk : okM m) : enc m / lN 262144 = lN m.1 := encA hk.1 hk.2.1 hk.2.2.1 hk.2.2.2.1 hk.2.2.2.2.1 hk.2.2.2.2.2.1
theorem okM.dec (hk : okM m) : dE (enc m) = nI m.2.1 ∧ dC (enc m) = nI m.2.2.1 ∧ dK (enc m) = nI m.2.2.2.1 ∧ dV (enc m) = nI m.2.2.2.2.1 ∧ dN (enc m) = nI m.2.2.2.2.2 := by
  have hb := hk.b
  obtain ⟨h1, h2, h3, h4, h5, h6, -⟩ := hk
  unfold enc dE dC dK dV dN
  generalize hE : ((((m.1 * 2 + m.2.1) * 16 + m.2.2.1) * 16 + m.2.2.2.1) * 8 + m.2.2.2.2.1) * 64 + m.2.2.2.2.2 = E at hb ⊢
  rw [pk_lDiv hb (by decide) (by decide), pk_lDiv hb (by decide) (by decide), pk_lDiv hb (by decide) (by decide), pk_lDiv hb (by decide) (by decide), pk_lRem (by omega) (by decide) (by decide), pk_lRem (by omega) (by decide) (by decide), pk_lRem (by omega) (by decide) (by decide), pk_lRem (by omega) (by decide) (by decide)]
  have e5 : lN E - lN (E / 64) * lN 64 = lN (E % 64) := by rw [← pk_lDiv hb (by decide) (by decide)]; exact pk_lRem hb (by decide) (by decide)
  rw [e5, lN_32, lN_32, lN_32, lN_32, lN_32]
  refine ⟨?_, ?_, ?_, ?_, ?_⟩ <;> congr 1 <;> omega
theorem okM.cl (hk : okM m) : (dE (enc m)).toNatClampNeg = m.2.1 ∧ (dC (enc m)).toNatClampNeg = m.2.2.1 ∧ (dK (enc m)).toNatClampNeg = m.2.2.2.1 ∧ (dV (enc m)).toNatClampNeg = m.2.2.2.2.1 ∧ (dN (enc m)).toNatClampNeg = m.2.2.2.2.2 := by
  obtain ⟨e1, e2, e3, e4, e5⟩ := hk.dec
  obtain ⟨h1, h2, h3, h4, h5, h6, -⟩ := hk
  rw [e1, e2, e3, e4, e5]
  exact ⟨clampN (by omega), clampN (by omega), clampN (by omega), clampN (by omega), clampN (by omega)⟩
theorem pRv1_enc (hk : okM m) : pRv1 r q (enc m) = pRv (dec r 11) (popQ q (nM (dec r 11))) (1 - m.2.1) m.2.2.1 m.2.2.2.1 m.2.2.2.2.1 m.2.2.2.2.2 := by
  obtain ⟨e1, e2, e3, e4, e5⟩ := hk.cl
  unfold pRv1
  rw [e1, e2, e3, e4, e5]
theorem led_is {a : Int64} (h1 : ∀ i, i < J → q i / lN 262144 = a) : ∀ n, (∀ i, i < n → J ≤ i → ¬ q i / lN 262144 = a) → led q a n = if n ≤ J then n else J
  | 0, _ => by rw [if_pos (Nat.zero_le J)]; rfl
  | n + 1, h2 => by
    have ih := led_is h1 n (fun i hi => h2 i (Nat.lt_succ_of_lt hi))
    show (if led q a n = n ∧ q n / lN 262144 = a then n + 1 else led q a n) = _
    rw [ih]
    by_cases hn : n + 1 ≤ J
    · rw [if_pos hn, if_pos (show n ≤ J by omega), if_pos ⟨rfl, h1 n (by omega)⟩]
    · rw [if_neg hn]
      by_cases hn2 : n ≤ J
      · have : n = J := by omega
        subst this
        rw [if_pos hn2, if_neg (fun h9 => h2 n (by omega) (Nat.le_refl n) h9.2)]
      · rw [if_neg hn2, if_neg (fun h9 => by omega)]
/-- rows whose part that counts is the same -/
theorem RJ.same (hJ : RJ X T h hb N r) (hs : ∀ j, j = 0 ∨ j = 5 ∨ 12 ≤ j → r' j = r j) : RJ X T h hb N r' := by
  obtain ⟨⟨C, h1, h2, h3⟩, ⟨h4, h5⟩, h6, h7, h8⟩ := hJ
  have hc : ∀ {n w}, r' (cI n w) = r (cI n w) := fun {n w} => hs _ (by have := cI_ge (n := n) (w := w); omega)
  have he : ∀ {e c w}, r' (eI e c w) = r (eI e c w) := fun {e c w} => hs _ (by have := eI_ge (e := e) (c := c) (w := w); omega)
  refine ⟨⟨C, h1, h2, (hs 0 (by omega)).trans h3⟩, ⟨(hs 5 (by omega)).trans h4, h5⟩, fun c' hc' => ?_, fun n hn => ?_, fun e' c' he' hc' => (h8 e' c' he' hc').same (fun w _ => he) (fun n => hc)⟩
  · rw [hs (12 + c') (by omega)]; exact h6 c' hc'
  · rw [hc, hc, hc]; exact h7 n hn
theorem RP.same (hs : ∀ j, 12 ≤ j → r' j = r j) : RP r' N = RP r N := by
  unfold RP
  have hc : ∀ {n w}, r' (cI n w) = r (cI n w) := fun {n w} => hs _ (by have := cI_ge (n := n) (w := w); omega)
  have he : ∀ {e c w}, r' (eI e c w) = r (eI e c w) := fun {e c w} => hs _ (by have := eI_ge (e := e) (c := c) (w := w); omega)
  rw [sumN_congr N (f := fun n => 3 - (r' (cI n 2)).toNatClampNeg) (f' := fun n => 3 - (r (cI n 2)).toNatClampNeg) (fun n _ => by show 3 - (r' (cI n 2)).toNatClampNeg = _; rw [hc]), sumN_congr (f := fun x => chk r' (x / 12) (x % 12)) (f' := fun x => chk r (x / 12) (x % 12)) 24 (fun x _ => by show chk r' (x / 12) (x % 12) = _; unfold chk; rw [he, he])]
/-- clocks that go on for nothing -/
theorem JG.bump (hJ : JG X β T A h hb N t D r q) (hT : ∀ y, T y ≤ T' y) : JG X β T' A h hb N t D r q := by
  obtain ⟨⟨b1, b2, b3, b4, b5⟩, a2⟩ := hJ
  refine ⟨⟨b1, b2, b3, b4, fun e c he hc => ?_⟩, a2⟩
  obtain ⟨s, o, tm, ag, lb, rm, wt, vl, bt, d1, d2, d3, d4⟩ := b5 e c he hc
  refine ⟨s, o, tm, ag, lb, rm, wt, vl, bt, d1, ?_, d3, d4⟩
  have t1 := hT (12 * e + c)
  have t2 := hT (24 + (12 * e + c))
  obtain ⟨f1, f2, f3, f4, f5, f6, f7, f8, f9, f10, f11⟩ := d2
  exact ⟨f1, f2, f3, f4, f5, f6, fun h9 => ⟨(f7 h9).1, Nat.le_trans (f7 h9).2 (Nat.add_le_add_right t2 bt)⟩, f8, Nat.le_trans f9 t1, Nat.le_trans f10 t2, f11.imp id (fun h9 => h9.imp id (fun h8 => Nat.le_trans h8 (Nat.add_le_add_right t1 tm)))⟩
theorem JG.qc (hJ : JG X β T A h hb N t D r q) (hq : ∀ n, r 11 = nI n → n < 1000000 → ∀ i, i < n → q' i = q i) : JG X β T A h hb N t D r q' := by
  obtain ⟨a1, a2, G, n, a6, a7, a8, a9⟩ := hJ
  refine ⟨a1, a2, G, n, a6, a7, ⟨fun i hi => ?_, a8.2⟩, a9⟩
  obtain ⟨b1, b2⟩ := a8.1 i hi
  exact ⟨(hq n a6 a7.2 i hi).trans b1, b2⟩
theorem JG.wf (hJ : JG X β T A h hb N t D r q) : WF r := by
  obtain ⟨⟨⟨C, b1, b2, b3⟩, ⟨b4, b5⟩, b6, b7, b8⟩, -⟩ := hJ
  refine ⟨fun j hj => ⟨fun h0 => ⟨C, b2, by rw [h0]; exact b3⟩, fun g1 g2 => ?_, fun g1 => ?_⟩, fun e c he hc hs => ?_⟩
  · have he : (j - 24) / 9 % 2 < 2 := Nat.mod_lt _ (by decide)
    have hc : (j - 24) / 18 < 12 := by omega
    have hj : ∀ w, (j - 24) % 9 = w → j = eI ((j - 24) / 9 % 2) ((j - 24) / 18) w := fun w hw => by unfold eI; omega
    obtain ⟨s, o, tm, ag, lb, rm, wt, vl, bt, ⟨v0, v1, v2, v3, v4, v5, v6, v7, v8⟩, hn, -, -⟩ := b8 _ _ he hc
    unfold eV at v0 v1 v2 v3 v4 v5 v6 v7 v8
    refine ⟨fun hw => ?_, fun hw => ?_, fun hw => ?_, fun hw => ?_⟩
    · rw [hj _ hw]; exact ⟨s, hn.1.1, v0⟩
    · rw [hj _ hw, v1]
      unfold oI
      by_cases ho : o = 0
      · rw [if_pos ho]; exact Or.inl rfl
      · rw [if_neg ho]; exact Or.inr ⟨o - 1, by have := hn.1.2.1; omega, rfl⟩
    · rw [hj _ hw]; exact ⟨wt, hn.1.2.2.2.2.2.2.1, v6⟩
    · rw [hj _ hw]; exact ⟨vl, hn.1.2.2.2.2.2.2.2.1, v7⟩
  · have hj : ∀ w, (j - 240) % 6 = w → j = cI ((j - 240) / 6) w := fun w hw => by unfold cI; omega
    obtain ⟨og, at_, ck, c1, c2, c3, c4, c5, c6⟩ := b7 ((j - 240) / 6) (by omega)
    exact ⟨fun hw => by rw [hj _ hw]; exact ⟨og, c1, c4⟩, fun hw => by rw [hj _ hw]; exact ⟨ck, c3, c6⟩⟩
  · obtain ⟨s, o, tm, ag, lb, rm, wt, vl, bt, ⟨v0, v1, -⟩, hn, -, -⟩ := b8 e c he hc
    unfold eV at v0 v1
    have hs1 : s = 1 := (nI_eq (by have := hn.1.1; omega) (by decide)).mp (v0.symm.trans hs)
    have ho := hn.2.1 hs1
    refine ⟨o - 1, by have := hn.1.2.1; omega, ?_⟩
    rw [v1]; unfold oI; rw [if_neg (by omega)]
/-- the clock goes on -/
theorem arr_split : ∀ n, (∀ i, i < n → t < (G i).1.1) → (∀ i j, i < j → j < n → (G i).1.1 ≤ (G j).1.1) → ∃ J, J ≤ n ∧ ∀ i, i < n → (i < J → (G i).1.1 = t + 1) ∧ (J ≤ i → t + 1 < (G i).1.1)
  | 0, _, _ => ⟨0, Nat.le_refl 0, fun i hi => by omega⟩
  | n + 1, h1, h2 => by
    obtain ⟨J, i1, i2⟩ := arr_split n (fun i hi => h1 i (Nat.lt_succ_of_lt hi)) (fun i j hij hj => h2 i j hij (Nat.lt_succ_of_lt hj))
    have hn := h1 n (Nat.lt_succ_self n)
    by_cases h9 : J = n ∧ (G n).1.1 = t + 1
    · refine ⟨n + 1, Nat.le_refl _, fun i hi => ⟨fun _ => ?_, fun h8 => by omega⟩⟩
      by_cases hin : i = n
      · subst hin; exact h9.2
      · exact (i2 i (by omega)).1 (by omega)
    · refine ⟨J, by omega, fun i hi => ?_⟩
      by_cases hin : i = n
      · subst hin
        refine ⟨fun h8 => by omega, fun h8 => ?_⟩
        by_cases hJ : J = i
        · have : ¬ (G i).1.1 = t + 1 := fun h7 => h9 ⟨hJ, h7⟩
          omega
        · have := (i2 J (by omega)).2 (Nat.le_refl J)
          have := h2 J i (by omega) (by omega)
          omega
      · exact i2 i (by omega)
theorem JG.next (hJ : JG X β T (t, 0) h hb N t D r q) (ht : t < 300000) : JG X β T (t + 1, pJ r q) h hb N (t + 1) D (inc r 2) q := by
  obtain ⟨a1, ⟨a2, a3, a4, a5⟩, G, n, a6, a7, a8, a9⟩ := hJ
  have hin : ∀ {j}, ¬ j = 2 → inc r 2 j = r j := fun hj => u1_n hj
  obtain ⟨J, j1, j2⟩ := arr_split (t := t) (G := G) n (fun i hi => (a8.1 i hi).2.2.1.2 (Nat.zero_le i)) a8.2
  have hq : ∀ i, i < n → q i / lN 262144 = lN (G i).1.1 ∧ (G i).1.1 < 1000000 := fun i hi => by
    obtain ⟨b1, b2, -⟩ := a8.1 i hi
    rw [b1]; exact ⟨b2.ms.ar, b2.1⟩
  have hpJ : pJ r q = J := by
    unfold pJ nM
    rw [a6, clampN (by omega), a2, nI_add, nI_l (by omega)]
    have := led_is (q := q) (J := J) (a := lN (t + 1)) (fun i hi => by rw [(hq i (by omega)).1, (j2 i (by omega)).1 hi]) n (fun i hi hi2 h9 => by
      rw [(hq i hi).1] at h9
      have h8 := (pk_lEQ (by have := (hq i hi).2; omega) (by omega)).mp h9
      have := (j2 i hi).2 hi2
      omega)
    rw [this]
    split <;> omega
  rw [hpJ]
  refine ⟨a1.same (fun j hj => hin (by omega)), ⟨?_, by omega, (hin (by decide)).trans a4, a5⟩, G, n, (hin (by decide)).trans a6, ⟨j1, a7.2⟩, MJ.congr (r := r) ⟨fun i hi => ?_, a8.2⟩ (fun n _ => hin (by have := cI_ge (n := n) (w := 0); omega)), fun s => ?_⟩
  · show u1 r 2 (r 2 + nI 1) 2 = nI (t + 1)
    rw [u1_s, a2, nI_add]
  · obtain ⟨b1, b2, b3, b4⟩ := a8.1 i hi
    exact ⟨b1, b2, j2 i hi, b4⟩
  · rw [RP.same (fun j hj => hin (by omega))]; exact a9 s
end TK1
