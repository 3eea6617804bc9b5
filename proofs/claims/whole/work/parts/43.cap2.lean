/-! how many messages there can be: one is sent, one is taken -/
section CAP2
variable {X : Nat → Nat → Nat} {β β' T h hb : Nat → Nat} {A : Nat × Nat} {N t D e c w k v n j x s a p : Nat} {r r' : Nat → Int32} {q q' : Nat → Int64} {z : Int32} {G : Nat → GM} {tg : Tg} {m : Ms} {g : GM}
theorem encB (h1 : m.1 < 1000000) (h2 : m.2.1 < 2) (h3 : m.2.2.1 < 12) (h4 : m.2.2.2.1 < 14) (h5 : m.2.2.2.2.1 < 8) (h6 : m.2.2.2.2.2 < 40) : ((((m.1 * 2 + m.2.1) * 16 + m.2.2.1) * 16 + m.2.2.2.1) * 8 + m.2.2.2.2.1) * 64 + m.2.2.2.2.2 < 2 ^ 63 := by omega
theorem encA (h1 : m.1 < 1000000) (h2 : m.2.1 < 2) (h3 : m.2.2.1 < 12) (h4 : m.2.2.2.1 < 14) (h5 : m.2.2.2.2.1 < 8) (h6 : m.2.2.2.2.2 < 40) : enc m / lN 262144 = lN m.1 := by
  unfold enc
  rw [pk_lDiv (encB h1 h2 h3 h4 h5 h6) (by decide) (by decide)]
  congr 1
  omega
theorem okG.arr (hk : okG N r g) : enc g.1 / lN 262144 = lN g.1.1 := encA hk.1 hk.2.1 hk.2.2.1 hk.2.2.2.1 hk.2.2.2.2.1 hk.2.2.2.2.2.1
theorem mPos_ok (ha : a < 2000000) : ∀ n, (∀ i, i < n → q i / lN 262144 = lN (G i).1.1 ∧ (G i).1.1 < 1000000) → mPos q (lN a) n ≤ n ∧ (∀ i, i < n → mPos q (lN a) n ≤ i → a < (G i).1.1) ∧ (0 < mPos q (lN a) n → (G (mPos q (lN a) n - 1)).1.1 ≤ a)
  | 0, _ => ⟨Nat.le_refl 0, fun i hi => by omega, fun h => by cases h⟩
  | n + 1, hq => by
    obtain ⟨i1, i2, i3⟩ := mPos_ok ha n (fun i hi => hq i (Nat.lt_succ_of_lt hi))
    obtain ⟨j1, j2⟩ := hq n (Nat.lt_succ_self n)
    have e0 : mPos q (lN a) (n + 1) = if q n / lN 262144 ≤ lN a then n + 1 else mPos q (lN a) n := rfl
    rw [e0, j1]
    by_cases hc : (G n).1.1 ≤ a
    · rw [if_pos ((pk_lLE (by omega) (by omega)).mpr hc)]
      refine ⟨Nat.le_refl _, fun i hi hi2 => by omega, fun _ => ?_⟩
      rw [Nat.add_sub_cancel]; exact hc
    · rw [if_neg (fun h9 => hc ((pk_lLE (by omega) (by omega)).mp h9))]
      refine ⟨by omega, fun i hi hi2 => ?_, i3⟩
      by_cases hin : i = n
      · subst hin; omega
      · exact i2 i (by omega) hi2
theorem insQ_lt {α : Type} {q : Nat → α} {m : α} {i : Nat} (h : i < p) : insQ q p n m i = q i := by unfold insQ; rw [if_neg (by omega), if_neg (by omega)]
theorem insQ_eq {α : Type} {q : Nat → α} {m : α} : insQ q p n m p = m := by unfold insQ; rw [if_pos rfl]
theorem insQ_gt {α : Type} {q : Nat → α} {m : α} {i : Nat} (h : p < i) (hi : i ≤ n) : insQ q p n m i = q (i - 1) := by unfold insQ; rw [if_neg (by omega), if_pos ⟨h, hi⟩]
theorem MJ.ins (hm : MJ A N r h hb G n q) (hp : p ≤ n) (hlo : ∀ i, i < n → p ≤ i → g.1.1 ≤ (G i).1.1) (hhi : 0 < p → (G (p - 1)).1.1 ≤ g.1.1) (hg : okG N r g) (hJp : A.2 ≤ p) (hA : A.1 < g.1.1) (ht : tgOK h hb g) : MJ A N r h hb (insQ G p n g) (n + 1) (insQ q p n (enc g.1)) := by
  refine ⟨fun i hi => ?_, fun i j hij hj => ?_⟩
  · rcases Nat.lt_trichotomy i p with h1 | h1 | h1
    · rw [insQ_lt h1, insQ_lt h1]; exact hm.1 i (by omega)
    · subst h1; rw [insQ_eq, insQ_eq]; exact ⟨rfl, hg, ⟨fun h9 => by omega, fun _ => hA⟩, ht⟩
    · rw [insQ_gt h1 (by omega), insQ_gt h1 (by omega)]
      obtain ⟨b1, b2, b3, b4⟩ := hm.1 (i - 1) (by omega)
      exact ⟨b1, b2, ⟨fun h9 => by omega, fun _ => b3.2 (by omega)⟩, b4⟩
  · have low : ∀ i, i < p → (G i).1.1 ≤ g.1.1 := fun i hi => by
      have hh := hhi (by omega)
      by_cases hi2 : i = p - 1
      · subst hi2; exact hh
      · exact Nat.le_trans (hm.2 i (p - 1) (by omega) (by omega)) hh
    rcases Nat.lt_trichotomy i p with h1 | h1 | h1
    · rw [insQ_lt h1]
      rcases Nat.lt_trichotomy j p with h2 | h2 | h2
      · rw [insQ_lt h2]; exact hm.2 i j hij (by omega)
      · subst h2; rw [insQ_eq]; exact low i h1
      · rw [insQ_gt h2 (by omega)]; exact Nat.le_trans (low i h1) (hlo (j - 1) (by omega) (by omega))
    · subst h1
      rw [insQ_eq, insQ_gt hij (by omega)]
      exact hlo (j - 1) (by omega) (by omega)
    · rw [insQ_gt h1 (by omega), insQ_gt (by omega) (by omega)]
      exact hm.2 (i - 1) (j - 1) (by omega) (by omega)
theorem mMsg_enc (h2 : r 2 = nI t) (h1 : r 1 = nI D) (ht : t + D < 1000000) (hz : k = 0 → r (eI e c 1) = nI x) (hx : x < 40) (hz0 : ¬ k = 0 → x = 0) : mMsg r e c k v = enc (t + D, e, c, k, v, x) := by
  unfold mMsg pkL enc
  rw [h2, h1, nI_add, nI_l (by omega)]
  by_cases hk : k = 0
  · rw [if_pos hk, hz hk, nI_l (by omega)]
    simp only [lN_mul, lN_add]
  · rw [if_neg hk, hz0 hk]
    simp only [lN_mul, lN_add]
/-- what is sent -/
theorem JG.send (hJ : JG X β T A h hb N t D r q) (he : e < 2) (hc : c < 12) (hk : k < 14) (hv : v < 8) (hA : A.1 < t + D) (hx : x < 40) (h0 : k = 0 → r (eI e c 1) = nI x ∧ v < 2 ∧ x < N ∧ r (cI x 0) = nI e) (hx0 : ¬ k = 0 → x = 0) (ht : tgOK h hb ((t + D, e, c, k, v, x), tg)) (hr : Rm r 1) : JG X (u1 β (slot tg) (β (slot tg) + wgt X ((t + D, e, c, k, v, x), tg))) T A h hb N t D (pSend r q e c k v).1 (pSend r q e c k v).2 := by
  obtain ⟨a1, ⟨a2, a3, a4, a5, a6⟩, G, n, a7, a8, a9, a10⟩ := hJ
  have hTc : Tch 0 0 r (pSend r q e c k v).1 := Tch.send Tch.rfl' he
  have hE : EJ X T h hb N (pSend r q e c k v).1 0 0 := by
    obtain ⟨s, o, tm, ag, lb, rm, wt, vl, bt, b1, b2, b3, b4⟩ := a1.2.2.2.2 0 0 (by decide) (by decide)
    exact ⟨s, o, tm, ag, lb, rm, wt, vl, bt, b1.congr (fun w _ => pSend_e he eI_ge), b2, by rw [hTc.ci (by omega)]; exact b3, by rw [hTc.ci (by omega)]; exact b4⟩
  have hP : RP (pSend r q e c k v).1 N = RP r N := by
    have := RP.of (N := N) hTc (show 0 < 2 by decide) (show 0 < 12 by decide)
    have h2 : chk (pSend r q e c k v).1 0 0 = chk r 0 0 := by unfold chk; rw [pSend_e he eI_ge, pSend_e he eI_ge]
    omega
  have hn : nM r = n := by unfold nM; rw [a7]; exact clampN (by omega)
  have hn2 : n + 1 ≤ 12500 := by
    obtain ⟨n', b1, b2⟩ := hr
    rw [a7] at b1
    rw [(nI_eq (by omega) (by omega)).mp b1]
    exact b2
  refine ⟨a1.of hTc (by decide) (by decide) (fun _ _ _ => ⟨rfl, rfl, rfl⟩) hE, ⟨(hTc 2 (by unfold Es; omega)).trans a2, a3, (hTc 1 (by unfold Es; omega)).trans a4, a5, a6⟩, ?_⟩
  rw [hP]
  by_cases hl : nI 0 < r (3 + e)
  · have hs : pSend r q e c k v = (inc (dec (inc r 6) (3 + e)) 7, q) := by unfold pSend mSends; rw [if_pos hl]
    rw [hs] at hTc ⊢
    refine ⟨G, n, ?_, a8, a9.congr (fun n _ => hTc.ci (by omega)), fun s => Nat.le_trans (a10 s) ?_⟩
    · show inc (dec (inc r 6) (3 + e)) 7 11 = nI n
      unfold inc dec
      rw [u1_n (by omega), u1_n (by omega), u1_n (by omega)]; exact a7
    · by_cases h9 : s = slot tg
      · subst h9; rw [u1_s]; omega
      · rw [u1_n h9]; exact Nat.le_refl _
  · have hs : pSend r q e c k v = (inc (inc r 6) 11, insQ q (mPos q (r 2 + r 1).toInt64 n) n (mMsg r e c k v)) := by unfold pSend mSends; rw [if_neg hl, hn]
    have harr : (r 2 + r 1).toInt64 = lN (t + D) := by rw [a2, a4, nI_add, nI_l (by omega)]
    have hmm : mMsg r e c k v = enc (t + D, e, c, k, v, x) := mMsg_enc a2 a4 (by omega) (fun h9 => (h0 h9).1) hx hx0
    rw [hs] at hTc ⊢
    rw [harr, hmm]
    obtain ⟨p1, p2, p3⟩ := mPos_ok (q := q) (G := G) (a := t + D) (by omega) n (fun i hi => by
      obtain ⟨c1, c2, -⟩ := a9.1 i hi
      rw [c1, c2.arr]; exact ⟨rfl, c2.1⟩)
    generalize mPos q (lN (t + D)) n = p at p1 p2 p3 ⊢
    have hJp : A.2 ≤ p := Nat.le_of_not_lt (fun h9 => by
      have h8 := p2 p (by omega) (Nat.le_refl p)
      have h7 := (a9.1 p (by omega)).2.2.1.1 h9
      omega)
    refine ⟨insQ G p n ((t + D, e, c, k, v, x), tg), n + 1, ?_, by omega, ?_, fun s => ?_⟩
    · show inc (inc r 6) 11 11 = nI (n + 1)
      unfold inc
      rw [u1_s, u1_n (by decide), a7, nI_add]
    · refine MJ.congr (MJ.ins (g := ((t + D, e, c, k, v, x), tg)) a9 p1 (fun i hi hpi => Nat.le_of_lt (p2 i hi hpi)) p3 ?_ hJp hA ht) (fun n _ => hTc.ci (by omega))
      exact ⟨by show t + D < 1000000; omega, he, hc, hk, hv, hx, fun h9 => (h0 h9).2⟩
    · have := a10 s
      unfold Wt at this ⊢
      rw [sumN_ins (F := wS X s) n p1]
      by_cases h9 : s = slot tg
      · have e1 : wS X s ((t + D, e, c, k, v, x), tg) = wgt X ((t + D, e, c, k, v, x), tg) := by unfold wS; rw [if_pos h9.symm]
        rw [e1, h9, u1_s]
        rw [h9] at this
        omega
      · have e1 : wS X s ((t + D, e, c, k, v, x), tg) = 0 := by unfold wS; rw [if_neg (fun h => h9 h.symm)]
        rw [e1, u1_n h9]
        omega
theorem sum_slots {K : Nat} {u : GM → Nat} : ∀ n, (∀ i, i < n → u (G i) < K) → sumN (fun i => wgt X (G i)) n ≤ sumN (fun s => sumN (fun i => if u (G i) = s then wgt X (G i) else 0) n) K
  | 0, _ => Nat.zero_le _
  | n + 1, hu => by
    have ih := sum_slots n (fun i hi => hu i (Nat.lt_succ_of_lt hi))
    have e1 : ∀ K, sumN (fun s => sumN (fun i => if u (G i) = s then wgt X (G i) else 0) (n + 1)) K = sumN (fun s => sumN (fun i => if u (G i) = s then wgt X (G i) else 0) n) K + sumN (fun s => if u (G n) = s then wgt X (G n) else 0) K := by
      intro K
      induction K with
      | zero => rfl
      | succ K ih =>
        show sumN _ K + (sumN _ n + (if u (G n) = K then wgt X (G n) else 0)) = sumN _ K + sumN _ n + (sumN _ K + (if u (G n) = K then wgt X (G n) else 0))
        rw [ih]
        omega
    have e2 : ∀ K, u (G n) < K → wgt X (G n) ≤ sumN (fun s => if u (G n) = s then wgt X (G n) else 0) K := by
      intro K
      induction K with
      | zero => intro h; omega
      | succ K ih =>
        intro hK
        show wgt X (G n) ≤ sumN _ K + (if u (G n) = K then wgt X (G n) else 0)
        by_cases h9 : u (G n) = K
        · rw [if_pos h9]; omega
        · rw [if_neg h9]; have := ih (by omega); omega
    rw [e1]
    have := e2 K (hu n (Nat.lt_succ_self n))
    show sumN (fun i => wgt X (G i)) n + wgt X (G n) ≤ _
    omega
theorem sum_const {a : Nat} : ∀ n, sumN (fun _ => a) n = n * a
  | 0 => by simp [sumN]
  | n + 1 => by show sumN _ n + a = _; rw [sum_const n, Nat.succ_mul]
theorem sum_split {f : Nat → Nat} {a b : Nat} : ∀ k, sumN f (a + k) = sumN f a + sumN (fun i => f (a + i)) k
  | 0 => rfl
  | k + 1 => by
    show sumN f (a + k) + f (a + k) = sumN f a + (sumN (fun i => f (a + i)) k + f (a + k))
    rw [sum_split k (b := b)]; omega
/-- what all may hold -/
def Cap (β : Nat → Nat) : Prop := β 0 ≤ 12012 ∧ ∀ s, (1 ≤ s → s < 169 → β s ≤ 2) ∧ (169 ≤ s → s < 289 → β s ≤ 1)
theorem slot_lt (ht : tgOK h hb g) : slot g.2 < 289 := by
  unfold slot
  rcases ht with h | h | h
  · rw [if_pos h]; decide
  · rw [if_neg (by omega), if_pos h.1]; omega
  · rw [if_neg (by omega), if_neg (by omega)]; omega
theorem JG.cap (hJ : JG X β T A h hb N t D r q) (hβ : Cap β) : Rm r 32 := by
  obtain ⟨-, -, G, n, a7, a8, a9, a10⟩ := hJ
  refine ⟨n, a7, ?_⟩
  have h1 : n ≤ sumN (fun i => wgt X (G i)) n := by
    have := sumN_le (f := fun _ => 1) (f' := fun i => wgt X (G i)) n (fun i _ => by
      show 1 ≤ wgt X (G i)
      unfold wgt
      split
      · split <;> omega
      · exact Nat.le_refl 1)
    rw [sum_const, Nat.mul_one] at this
    exact this
  have h2 := sum_slots (X := X) (G := G) (K := 289) (u := fun g => slot g.2) n (fun i hi => slot_lt (a9.1 i hi).2.2.2)
  have h3 : sumN (fun s => sumN (fun i => if slot (G i).2 = s then wgt X (G i) else 0) n) 289 ≤ sumN β 289 := sumN_le 289 (fun s _ => by
    have := a10 s
    show Wt X s G n ≤ β s
    omega)
  have h4 : sumN β 289 ≤ 12012 + 456 := by
    rw [show (289 : Nat) = 1 + 288 from rfl, sum_split (b := 0) 288, show (288 : Nat) = 168 + 120 from rfl, sum_split (b := 0) 120]
    have e1 : sumN β 1 ≤ 12012 := by show 0 + β 0 ≤ 12012; have := hβ.1; omega
    have e2 := sumN_le (f := fun i => β (1 + i)) (f' := fun _ => 2) 168 (fun i hi => (hβ.2 (1 + i)).1 (by omega) (by omega))
    have e3 := sumN_le (f := fun i => β (1 + (168 + i))) (f' := fun _ => 1) 120 (fun i hi => (hβ.2 (1 + (168 + i))).2 (by omega) (by omega))
    rw [sum_const] at e2 e3
    omega
  have h5 : n ≤ sumN (fun s => sumN (fun i => if slot (G i).2 = s then wgt X (G i) else 0) n) 289 := Nat.le_trans h1 h2
  omega
/-- the first message is taken -/
theorem JG.pop (hJ : JG X β T A h hb N t D r q) (hA : 1 ≤ A.2) : ∃ g : GM, q 0 = enc g.1 ∧ okG N r g ∧ g.1.1 = A.1 ∧ tgOK h hb g ∧ wgt X g ≤ β (slot g.2) ∧ JG X (u1 β (slot g.2) (β (slot g.2) - wgt X g)) T (A.1, A.2 - 1) h hb N t D (dec r 11) (fun i => q (i + 1)) := by
  obtain ⟨a1, ⟨a2, a3, a4, a5⟩, G, n, a7, a8, a9, a10⟩ := hJ
  cases n with
  | zero => omega
  | succ n =>
    obtain ⟨b1, b2, b3, b4⟩ := a9.1 0 (by omega)
    have hTc : Tch 0 0 r (dec r 11) := Tch.lo Tch.rfl' (by omega)
    have hd : ∀ {j : Nat}, ¬ j = 11 → dec r 11 j = r j := fun hj => u1_n hj
    have hE : EJ X T h hb N (dec r 11) 0 0 := by
      obtain ⟨s, o, tm, ag, lb, rm, wt, vl, bt, d1, d2, d3, d4⟩ := a1.2.2.2.2 0 0 (by decide) (by decide)
      exact ⟨s, o, tm, ag, lb, rm, wt, vl, bt, d1.congr (fun w _ => hd (by have := eI_ge (e := 0) (c := 0) (w := w); omega)), d2, by rw [hTc.ci (by omega)]; exact d3, by rw [hTc.ci (by omega)]; exact d4⟩
    have hP : RP (dec r 11) N = RP r N := by
      have := RP.of (N := N) hTc (show 0 < 2 by decide) (show 0 < 12 by decide)
      have h2 : chk (dec r 11) 0 0 = chk r 0 0 := by unfold chk; rw [hd (by decide), hd (by decide)]
      omega
    have hw : ∀ s, Wt X s G (n + 1) = wS X s (G 0) + Wt X s (fun i => G (i + 1)) n := fun s => by
      unfold Wt; rw [sumN_pop]
    have hself : wS X (slot (G 0).2) (G 0) = wgt X (G 0) := by unfold wS; rw [if_pos rfl]
    refine ⟨G 0, b1, b2, b3.1 hA, b4, ?_, a1.of hTc (by decide) (by decide) (fun _ _ _ => ⟨rfl, rfl, rfl⟩) hE, ⟨(hd (by decide)).trans a2, a3, (hd (by decide)).trans a4, a5⟩, fun i => G (i + 1), n, ?_, ⟨by show A.2 - 1 ≤ n; omega, by omega⟩, ?_, fun s => ?_⟩
    · have h1 := a10 (slot (G 0).2)
      have h2 := hw (slot (G 0).2)
      rw [hself] at h2
      omega
    · show u1 r 11 (r 11 - nI 1) 11 = nI n
      rw [u1_s, a7, pk_sub (by omega), Nat.add_sub_cancel]
    · exact MJ.congr ⟨fun i hi => by
        obtain ⟨d1, d2, d3, d4⟩ := a9.1 (i + 1) (by omega)
        exact ⟨d1, d2, ⟨fun h9 => d3.1 (by have : i < A.2 - 1 := h9; omega), fun h9 => d3.2 (by have : A.2 - 1 ≤ i := h9; omega)⟩, d4⟩, fun i j hij hj => a9.2 (i + 1) (j + 1) (by omega) (by omega)⟩ (fun n _ => hTc.ci (by omega))
    · have h1 := a10 s
      rw [hw s] at h1
      rw [hP]
      by_cases h9 : s = slot (G 0).2
      · rw [h9, hself] at h1
        rw [h9, u1_s]
        omega
      · rw [u1_n h9]
        omega
end CAP2
