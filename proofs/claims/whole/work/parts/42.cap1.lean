/-! how many messages there can be: words -/
def sumN (f : Nat → Nat) : Nat → Nat
  | 0 => 0
  | n + 1 => sumN f n + f n
/-- a message: arrival, exchange, circuit, kind, value, call; behind it what it comes from: 0 a call of the user's, 1 an end's timer, 2 its timer of blocking; which end; when -/
abbrev Ms : Type := Nat × Nat × Nat × Nat × Nat × Nat
abbrev Tg : Type := Nat × Nat × Nat
abbrev GM : Type := Ms × Tg
def enc (m : Ms) : Int64 := lN (((((m.1 * 2 + m.2.1) * 16 + m.2.2.1) * 16 + m.2.2.2.1) * 8 + m.2.2.2.2.1) * 64 + m.2.2.2.2.2)
def slot (t : Tg) : Nat := if t.1 = 0 then 0 else if t.1 = 1 then 1 + t.2.1 * 7 + t.2.2 / 10 % 7 else 169 + t.2.1 * 5 + t.2.2 / 10 % 5
def wgt (X : Nat → Nat → Nat) (g : GM) : Nat := if g.1.2.2.2.1 = 12 then (if g.2.1 = 0 then 1 + X (1 - g.1.2.1) g.1.2.2.1 else 2) else 1
def life (y k : Nat) : Nat := if y = 1 then (if k = 6 ∨ k = 12 then 20 else if k = 7 ∨ k = 8 ∨ k = 13 then 40 else if k = 9 then 60 else 0) else (if k = 8 ∨ k = 10 then 20 else if k = 9 ∨ k = 11 then 40 else 0)
def oI (o : Nat) : Int32 := if o = 0 then -1 else nI (o - 1)
def En (N e x T Tb h hb s o tm ag lb rm wt vl bt : Nat) : Prop := (s < 8 ∧ o ≤ N ∧ tm ≤ 60 ∧ ag ≤ 2 ∧ lb < 4 ∧ rm < 2 ∧ wt < 2 ∧ vl < 8 ∧ bt ≤ 10) ∧ (s = 1 → 1 ≤ o) ∧ (s = 2 → 1 ≤ o) ∧ (s = 0 ∨ s = 4 → tm = 0) ∧ (ag ≠ 0 → s = 6) ∧ (wt = 1 → s = 1 ∨ s = 2) ∧ (lb = 1 ∨ lb = 3 → 1 ≤ bt ∧ hb + 10 ≤ Tb + bt) ∧ (lb = 1 ∨ lb = 2 → x = 1) ∧ h ≤ T ∧ hb ≤ Tb ∧ (tm = 0 ∨ (s = 1 ∧ wt = 1) ∨ h + 10 ≤ T + tm)
def EV (f : Nat → Int32) (s o tm ag lb rm wt vl bt : Nat) : Prop := f 0 = nI s ∧ f 1 = oI o ∧ f 2 = nI tm ∧ f 3 = nI ag ∧ f 4 = nI lb ∧ f 5 = nI rm ∧ f 6 = nI wt ∧ f 7 = nI vl ∧ f 8 = nI bt
def eV (r : Nat → Int32) (e c : Nat) : Nat → Int32 := fun w => r (eI e c w)
/-- an end is as it should be -/
def EJ (X : Nat → Nat → Nat) (T h hb : Nat → Nat) (N : Nat) (r : Nat → Int32) (e c : Nat) : Prop := ∃ s o tm ag lb rm wt vl bt, EV (eV r e c) s o tm ag lb rm wt vl bt ∧ En N e (X e c) (T (12 * e + c)) (T (24 + (12 * e + c))) (h (12 * e + c)) (hb (12 * e + c)) s o tm ag lb rm wt vl bt ∧ (s = 1 → r (cI (o - 1) 0) = nI e) ∧ (s = 2 → r (cI (o - 1) 0) = nI (1 - e))
def RJ (X : Nat → Nat → Nat) (T h hb : Nat → Nat) (N : Nat) (r : Nat → Int32) : Prop :=
  (∃ C, 1 ≤ C ∧ C ≤ 12 ∧ r 0 = nI C) ∧ (r 5 = nI N ∧ N ≤ 40) ∧ (∀ c, c < 12 → ∃ k, k < 2 ∧ r (12 + c) = nI k) ∧ (∀ n, n < 40 → ∃ og at_ ck, og < 2 ∧ at_ ≤ 3 ∧ ck < 2 ∧ r (cI n 0) = nI og ∧ r (cI n 2) = nI at_ ∧ r (cI n 5) = nI ck) ∧ ∀ e c, e < 2 → c < 12 → EJ X T h hb N r e c
def chk (r : Nat → Int32) (e c : Nat) : Nat := if r (eI e c 0) = nI 1 ∧ r (eI e c 6) = nI 1 then 1 else 0
def RP (r : Nat → Int32) (N : Nat) : Nat := 2 * sumN (fun n => 3 - (r (cI n 2)).toNatClampNeg) N + sumN (fun x => chk r (x / 12) (x % 12)) 24
def okG (N : Nat) (r : Nat → Int32) (g : GM) : Prop := g.1.1 < 1000000 ∧ g.1.2.1 < 2 ∧ g.1.2.2.1 < 12 ∧ g.1.2.2.2.1 < 14 ∧ g.1.2.2.2.2.1 < 8 ∧ g.1.2.2.2.2.2 < 40 ∧ (g.1.2.2.2.1 = 0 → g.1.2.2.2.2.1 < 2 ∧ g.1.2.2.2.2.2 < N ∧ r (cI g.1.2.2.2.2.2 0) = nI g.1.2.1)
def tgOK (h hb : Nat → Nat) (g : GM) : Prop := g.2.1 = 0 ∨ (g.2.1 = 1 ∧ g.2.2.1 < 24 ∧ g.2.2.2 ≤ h g.2.2.1 ∧ g.1.1 ≤ g.2.2.2 + life 1 g.1.2.2.2.1) ∨ (g.2.1 = 2 ∧ g.2.2.1 < 24 ∧ g.2.2.2 ≤ hb g.2.2.1 ∧ g.1.1 ≤ g.2.2.2 + life 2 g.1.2.2.2.1)
def MJ (A : Nat × Nat) (N : Nat) (r : Nat → Int32) (h hb : Nat → Nat) (G : Nat → GM) (n : Nat) (q : Nat → Int64) : Prop := (∀ i, i < n → q i = enc (G i).1 ∧ okG N r (G i) ∧ ((i < A.2 → (G i).1.1 = A.1) ∧ (A.2 ≤ i → A.1 < (G i).1.1)) ∧ tgOK h hb (G i)) ∧ ∀ i j, i < j → j < n → (G i).1.1 ≤ (G j).1.1
def wS (X : Nat → Nat → Nat) (s : Nat) (g : GM) : Nat := if slot g.2 = s then wgt X g else 0
def Wt (X : Nat → Nat → Nat) (s : Nat) (G : Nat → GM) (n : Nat) : Nat := sumN (fun i => wS X s (G i)) n
def JG (X : Nat → Nat → Nat) (β : Nat → Nat) (T : Nat → Nat) (A : Nat × Nat) (h hb : Nat → Nat) (N t D : Nat) (r : Nat → Int32) (q : Nat → Int64) : Prop :=
  RJ X T h hb N r ∧ (r 2 = nI t ∧ t ≤ 300000 ∧ r 1 = nI D ∧ 1 ≤ D ∧ D ≤ 20) ∧ ∃ G n, r 11 = nI n ∧ (A.2 ≤ n ∧ n < 1000000) ∧ MJ A N r h hb G n q ∧ ∀ s, Wt X s G n + (if s = 0 then RP r N else 0) ≤ β s
section CAP1
variable {X : Nat → Nat → Nat} {β β' T h hb : Nat → Nat} {A : Nat × Nat} {N t D e c w k v n j x s : Nat} {r r' : Nat → Int32} {q q' : Nat → Int64} {z : Int32} {G : Nat → GM} {f f' : Nat → Nat}
theorem sumN_congr : ∀ n, (∀ i, i < n → f i = f' i) → sumN f n = sumN f' n
  | 0, _ => rfl
  | n + 1, hf => by
    show sumN f n + f n = sumN f' n + f' n
    rw [sumN_congr n (fun i hi => hf i (Nat.lt_succ_of_lt hi)), hf n (Nat.lt_succ_self n)]
theorem sumN_le : ∀ n, (∀ i, i < n → f i ≤ f' i) → sumN f n ≤ sumN f' n
  | 0, _ => Nat.le_refl 0
  | n + 1, hf => Nat.add_le_add (sumN_le n (fun i hi => hf i (Nat.lt_succ_of_lt hi))) (hf n (Nat.lt_succ_self n))
theorem sumN_one : ∀ n, x < n → (∀ i, i < n → ¬ i = x → f i = f' i) → sumN f n + f' x = sumN f' n + f x
  | 0, h, _ => by omega
  | n + 1, hx, hf => by
    show sumN f n + f n + f' x = sumN f' n + f' n + f x
    by_cases hxn : x = n
    · subst hxn
      rw [sumN_congr x (fun i hi => hf i (Nat.lt_succ_of_lt hi) (Nat.ne_of_lt hi))]
      omega
    · have := sumN_one n (by omega) (fun i hi => hf i (Nat.lt_succ_of_lt hi))
      have h2 := hf n (Nat.lt_succ_self n) (fun h => hxn h.symm)
      omega
theorem sumN_pop : ∀ n, sumN f (n + 1) = f 0 + sumN (fun i => f (i + 1)) n
  | 0 => by show 0 + f 0 = f 0 + 0; omega
  | n + 1 => by
    show sumN f (n + 1) + f (n + 1) = f 0 + (sumN (fun i => f (i + 1)) n + f (n + 1))
    rw [sumN_pop n]; omega
theorem sumN_ins {p : Nat} {m : GM} {F : GM → Nat} : ∀ n, p ≤ n → sumN (fun i => F (insQ G p n m i)) (n + 1) = sumN (fun i => F (G i)) n + F m := by
  have low : ∀ k n, k ≤ p → sumN (fun i => F (insQ G p n m i)) k = sumN (fun i => F (G i)) k := fun k n hk => sumN_congr k (fun i hi => by
    show F (insQ G p n m i) = F (G i)
    unfold insQ
    rw [if_neg (by omega), if_neg (by omega)])
  have high : ∀ n k, p ≤ k → k ≤ n → sumN (fun i => F (insQ G p n m i)) (k + 1) = sumN (fun i => F (G i)) k + F m := by
    intro n k
    induction k with
    | zero =>
      intro hp _
      have : p = 0 := by omega
      subst this
      show 0 + F (insQ G 0 n m 0) = 0 + F m
      unfold insQ
      rw [if_pos rfl]
    | succ k ih =>
      intro hp hk
      show sumN (fun i => F (insQ G p n m i)) (k + 1) + F (insQ G p n m (k + 1)) = sumN (fun i => F (G i)) k + F (G k) + F m
      by_cases h1 : p = k + 1
      · rw [low (k + 1) n (by omega)]
        have : insQ G p n m (k + 1) = m := by unfold insQ; rw [if_pos h1.symm]
        rw [this]
        rfl
      · rw [ih (by omega) (by omega)]
        have : insQ G p n m (k + 1) = G k := by
          unfold insQ
          rw [if_neg (by omega), if_pos (by omega), Nat.add_sub_cancel]
        rw [this]
        omega
  exact fun n hp => high n n hp (Nat.le_refl n)
/-- what counts, outside of one end -/
def Es (e c j : Nat) : Prop := j = 0 ∨ j = 1 ∨ j = 2 ∨ j = 5 ∨ (12 ≤ j ∧ j < 24) ∨ (24 ≤ j ∧ j < 240 ∧ ∀ w, w < 9 → ¬ j = eI e c w) ∨ (240 ≤ j ∧ ((j - 240) % 6 = 0 ∨ (j - 240) % 6 = 2 ∨ (j - 240) % 6 = 5))
def Tch (e c : Nat) (r r' : Nat → Int32) : Prop := ∀ j, Es e c j → r' j = r j
theorem Tch.rfl' : Tch e c r r := fun _ _ => rfl
theorem Tch.trans {r2 : Nat → Int32} (h1 : Tch e c r r') (h2 : Tch e c r' r2) : Tch e c r r2 := fun j hj => (h2 j hj).trans (h1 j hj)
theorem Tch.sE (h : Tch e c r r') (hw : w < 9) (hc : c < 12) (he : e < 2) : Tch e c r (sE r' e c w z) := h.trans (fun j hj => by
  refine u1_n ?_
  rcases hj with h | h | h | h | h | h | h
  all_goals first | exact h.2.2 w hw | (unfold eI; omega))
theorem Tch.sC (h : Tch e c r r') (hw : w = 1 ∨ w = 3 ∨ w = 4) : Tch e c r (sC r' n w z) := h.trans (fun j hj => by
  refine u1_n ?_
  rcases hj with h | h | h | h | h | h | h
  all_goals (unfold cI; omega))
theorem Tch.lo (h : Tch e c r r') (hw : x = 3 ∨ x = 4 ∨ x = 6 ∨ x = 7 ∨ x = 8 ∨ x = 9 ∨ x = 10 ∨ x = 11) : Tch e c r (u1 r' x z) := h.trans (fun j hj => by
  refine u1_n ?_
  rcases hj with h | h | h | h | h | h | h
  all_goals omega)
theorem Tch.send {e' c' : Nat} (h : Tch e c r r') (he : e' < 2) : Tch e c r (pSend r' q e' c' k v).1 := by
  unfold pSend mSends
  split
  · exact ((h.lo (by omega)).lo (by omega)).lo (by omega)
  · exact (h.lo (by omega)).lo (by omega)
theorem Tch.pend (h : Tch e c r r') : Tch e c r (pEnd r' n z) := (h.sC (by omega)).sC (by omega)
theorem Tch.pendO {z1 : Int32} (h : Tch e c r r') : Tch e c r (pEndO r' z z1) := by
  unfold pEndO
  split
  · exact h
  · exact h.pend
theorem Tch.idle (h : Tch e c r r') (he : e < 2) (hc : c < 12) : Tch e c r (pIdle r' e c) := ((((h.sE (by decide) hc he).sE (by decide) hc he).sE (by decide) hc he).sE (by decide) hc he).sE (by decide) hc he
theorem Tch.aw {z1 : Int32} (h : Tch e c r r') (he : e < 2) (hc : c < 12) : Tch e c r (pAw r' e c z z1) := (((h.sE (by decide) hc he).sE (by decide) hc he).sE (by decide) hc he).sE (by decide) hc he
theorem Tch.ci (h : Tch e c r r') (hw : w = 0 ∨ w = 2 ∨ w = 5) : r' (cI n w) = r (cI n w) := h _ (by unfold Es cI; omega)
theorem Tch.ei {e' c' : Nat} (h : Tch e c r r') (he : e < 2) (he' : e' < 2) (hc' : c' < 12) (hw : w < 9) (hne : ¬ (e' = e ∧ c' = c)) : r' (eI e' c' w) = r (eI e' c' w) := h _ (Or.inr (Or.inr (Or.inr (Or.inr (Or.inr (Or.inl ⟨eI_ge, eI_lt he' hc' hw, fun w' hw' => by unfold eI; omega⟩))))))
theorem EV.congr {f f' : Nat → Int32} {s o tm ag lb rm wt vl bt : Nat} (h : EV f s o tm ag lb rm wt vl bt) (hf : ∀ w, w < 9 → f' w = f w) : EV f' s o tm ag lb rm wt vl bt := by
  obtain ⟨h0, h1, h2, h3, h4, h5, h6, h7, h8⟩ := h
  exact ⟨(hf 0 (by decide)).trans h0, (hf 1 (by decide)).trans h1, (hf 2 (by decide)).trans h2, (hf 3 (by decide)).trans h3, (hf 4 (by decide)).trans h4, (hf 5 (by decide)).trans h5, (hf 6 (by decide)).trans h6, (hf 7 (by decide)).trans h7, (hf 8 (by decide)).trans h8⟩
theorem RJ.of {T' h' hb' : Nat → Nat} (hr : RJ X T h hb N r) (ht : Tch e c r r') (he : e < 2) (hc : c < 12) (hT : ∀ y, ¬ y = 12 * e + c → ¬ y = 24 + (12 * e + c) → T' y = T y ∧ h' y = h y ∧ hb' y = hb y) (hE : EJ X T' h' hb' N r' e c) : RJ X T' h' hb' N r' := by
  obtain ⟨⟨C, h1, h2, h3⟩, ⟨h4, h5⟩, h6, h7, h8⟩ := hr
  refine ⟨⟨C, h1, h2, (ht 0 (Or.inl rfl)).trans h3⟩, ⟨(ht 5 (by unfold Es; omega)).trans h4, h5⟩, fun c' hc' => ?_, fun n hn => ?_, fun e' c' he' hc' => ?_⟩
  · rw [ht (12 + c') (by unfold Es; omega)]; exact h6 c' hc'
  · rw [ht.ci (by omega), ht.ci (by omega), ht.ci (by omega)]; exact h7 n hn
  · by_cases hne : e' = e ∧ c' = c
    · obtain ⟨rfl, rfl⟩ := hne; exact hE
    · obtain ⟨s, o, tm, ag, lb, rm, wt, vl, bt, a1, a2, a3, a4⟩ := h8 e' c' he' hc'
      obtain ⟨t1, t2, t3⟩ := hT (12 * e' + c') (by omega) (by omega)
      obtain ⟨t4, -, -⟩ := hT (24 + (12 * e' + c')) (by omega) (by omega)
      refine ⟨s, o, tm, ag, lb, rm, wt, vl, bt, a1.congr (fun w hw => ht.ei he he' hc' hw hne), ?_, ?_, ?_⟩
      · rw [t1, t2, t3, t4]; exact a2
      · rw [ht.ci (by omega)]; exact a3
      · rw [ht.ci (by omega)]; exact a4
theorem RP.of (ht : Tch e c r r') (he : e < 2) (hc : c < 12) : RP r' N + chk r e c = RP r N + chk r' e c := by
  unfold RP
  rw [sumN_congr N (f := fun n => 3 - (r' (cI n 2)).toNatClampNeg) (f' := fun n => 3 - (r (cI n 2)).toNatClampNeg) (fun n _ => by show 3 - (r' (cI n 2)).toNatClampNeg = _; rw [ht.ci (by omega)])]
  have := sumN_one (x := 12 * e + c) (f := fun x => chk r' (x / 12) (x % 12)) (f' := fun x => chk r (x / 12) (x % 12)) 24 (by omega) (fun i hi hx => by
    show chk r' (i / 12) (i % 12) = chk r (i / 12) (i % 12)
    unfold chk
    rw [ht.ei he (by omega) (by omega) (by decide) (by omega), ht.ei he (by omega) (by omega) (by decide) (by omega)])
  simp only [show (12 * e + c) / 12 = e by omega, show (12 * e + c) % 12 = c by omega] at this
  omega
theorem MJ.congr (hm : MJ A N r h hb G n q) (hr : ∀ n, n < 40 → r' (cI n 0) = r (cI n 0)) : MJ A N r' h hb G n q := ⟨fun i hi => by
  obtain ⟨a, b, c, d⟩ := hm.1 i hi
  refine ⟨a, ?_, c, d⟩
  obtain ⟨b1, b2, b3, b4, b5, b6, b7⟩ := b
  exact ⟨b1, b2, b3, b4, b5, b6, fun h0 => by rw [hr _ b6]; exact b7 h0⟩, hm.2⟩
/-- an end's row changes, and no message is sent -/
theorem JG.row (hJ : JG X β T A h hb N t D r q) (ht : Tch e c r r') (h11 : r' 11 = r 11) (he : e < 2) (hc : c < 12) (hE : EJ X T h hb N r' e c) (hk : chk r' e c ≤ chk r e c) : JG X β T A h hb N t D r' q := by
  obtain ⟨a1, ⟨a2, a3, a4, a5⟩, G, n, a6, a7, a8, a9⟩ := hJ
  refine ⟨a1.of ht he hc (fun _ _ _ => ⟨rfl, rfl, rfl⟩) hE, ⟨(ht 2 (by unfold Es; omega)).trans a2, a3, (ht 1 (by unfold Es; omega)).trans a4, a5⟩, G, n, h11.trans a6, a7, a8.congr (fun n _ => ht.ci (by omega)), fun s => ?_⟩
  have h1 := a9 s
  have h2 := RP.of (N := N) ht he hc
  by_cases hs : s = 0
  · rw [if_pos hs] at h1 ⊢; omega
  · rw [if_neg hs] at h1 ⊢; exact h1
theorem JG.mono (hJ : JG X β T A h hb N t D r q) (hb' : ∀ s, β s ≤ β' s) : JG X β' T A h hb N t D r q := by
  obtain ⟨a1, a2, G, n, a6, a7, a8, a9⟩ := hJ
  exact ⟨a1, a2, G, n, a6, a7, a8, fun s => Nat.le_trans (a9 s) (hb' s)⟩
end CAP1
