/-! how many messages there can be: timers -/
section CAP5
variable {X : Nat → Nat → Nat} {β β' T h hb : Nat → Nat} {A N t D e c w w' k k' v v' n j x s a p B : Nat} {r r' r1 : Nat → Int32} {q q' : Nat → Int64} {z z1 : Int32} {G : Nat → GM} {tg : Tg} {m : Ms} {g : GM}
/-- what there may be, of each -/
def std (B : Nat) : Nat → Nat := fun s => if s = 0 then B else if s < 169 then 2 else 1
theorem std_cap (h : B ≤ 12012) : Cap (std B) := by
  refine ⟨by unfold std; rw [if_pos rfl]; exact h, fun s => ⟨fun h1 h2 => ?_, fun h1 h2 => ?_⟩⟩
  · unfold std; rw [if_neg (by omega), if_pos h2]; exact Nat.le_refl 2
  · unfold std; rw [if_neg (by omega), if_neg (by omega)]; exact Nat.le_refl 1
/-- nothing of one part: none of it is counted -/
theorem JG.free (hJ : JG X β T A h hb N t D r q) (hs0 : ¬ s = 0) (hs : ∀ g : GM, tgOK h hb g → A ≤ g.1.1 → g.1.2.2.2.1 < 14 → ¬ slot g.2 = s) : JG X (u1 β s 0) T A h hb N t D r q := by
  obtain ⟨a1, a2, G, n, a6, a7, a8, a9⟩ := hJ
  refine ⟨a1, a2, G, n, a6, a7, a8, fun s' => ?_⟩
  by_cases h9 : s' = s
  · subst h9
    rw [u1_s, if_neg hs0]
    have : Wt X s' G n = 0 := by
      unfold Wt
      have h1 := sumN_congr (f := fun i => wS X s' (G i)) (f' := fun _ => 0) n (fun i hi => by
        show wS X s' (G i) = 0
        obtain ⟨b1, b2, b3, b4⟩ := a8.1 i hi
        unfold wS
        rw [if_neg (hs (G i) b4 b3 b2.2.2.2.1)])
      rw [h1, sum_const, Nat.mul_zero]
    omega
  · rw [u1_n h9]
    exact a9 s'
theorem life_1 : life 1 k ≤ 60 := by
  unfold life
  rw [if_pos rfl]
  split
  · decide
  · split
    · decide
    · split <;> decide
theorem life_2 : life 2 k ≤ 40 := by
  unfold life
  rw [if_neg (by decide)]
  split
  · decide
  · split <;> decide
theorem slot1 (hx : x < 24) (hg : tgOK h hb g) (hh : h x + 10 ≤ t) (hA : t < g.1.1) : ¬ slot g.2 = slot (1, x, t) := by
  unfold slot
  rw [show ((1, x, t) : Tg).1 = 1 from rfl, if_neg (show ¬ (1 : Nat) = 0 by decide), if_pos (show (1 : Nat) = 1 from rfl)]
  show ¬ _ = 1 + x * 7 + t / 10 % 7
  rcases hg with h1 | ⟨h1, h2, h3, h4⟩ | ⟨h1, h2, h3, h4⟩
  · rw [if_pos h1]; omega
  · rw [if_neg (by omega), if_pos h1]
    have h5 := life_1 (k := g.1.2.2.2.1)
    intro h9
    have hx' : g.2.2.1 = x := by omega
    rw [hx'] at h3
    omega
  · rw [if_neg (by omega), if_neg (by omega)]; omega
theorem slot2 (hx : x < 24) (hg : tgOK h hb g) (hh : hb x + 10 ≤ t) (hA : t < g.1.1) : ¬ slot g.2 = slot (2, x, t) := by
  unfold slot
  rw [show ((2, x, t) : Tg).1 = 2 from rfl, if_neg (show ¬ (2 : Nat) = 0 by decide), if_neg (show ¬ (2 : Nat) = 1 by decide)]
  show ¬ _ = 169 + x * 5 + t / 10 % 5
  rcases hg with h1 | ⟨h1, h2, h3, h4⟩ | ⟨h1, h2, h3, h4⟩
  · rw [if_pos h1]; omega
  · rw [if_neg (by omega), if_pos h1]; omega
  · rw [if_neg (by omega), if_neg (by omega)]
    have h5 := life_2 (k := g.1.2.2.2.1)
    intro h9
    have hx' : g.2.2.1 = x := by omega
    rw [hx'] at h3
    omega
theorem tgOK.mono {h' hb' : Nat → Nat} (hg : tgOK h hb g) (h1 : ∀ x, h x ≤ h' x) (h2 : ∀ x, hb x ≤ hb' x) : tgOK h' hb' g := by
  rcases hg with b | ⟨b1, b2, b3, b4⟩ | ⟨b1, b2, b3, b4⟩
  · exact Or.inl b
  · exact Or.inr (Or.inl ⟨b1, b2, Nat.le_trans b3 (h1 _), b4⟩)
  · exact Or.inr (Or.inr ⟨b1, b2, Nat.le_trans b3 (h2 _), b4⟩)
/-- one end's clocks go on -/
theorem JG.clock {T' h' hb' : Nat → Nat} (hJ : JG X β T A h hb N t D r q) (ht : Tch e c r r') (h11 : r' 11 = r 11) (he : e < 2) (hc : c < 12) (hT : ∀ y, ¬ y = 12 * e + c → ¬ y = 24 + (12 * e + c) → T' y = T y ∧ h' y = h y ∧ hb' y = hb y) (h1 : ∀ x, h x ≤ h' x) (h2 : ∀ x, hb x ≤ hb' x) (hE : EJ X T' h' hb' N r' e c) (hk : chk r' e c ≤ chk r e c) : JG X β T' A h' hb' N t D r' q := by
  obtain ⟨a1, ⟨a2, a3, a4, a5⟩, G, n, a6, a7, a8, a9⟩ := hJ
  refine ⟨a1.of ht he hc hT hE, ⟨(ht 2 (by unfold Es; omega)).trans a2, a3, (ht 1 (by unfold Es; omega)).trans a4, a5⟩, G, n, h11.trans a6, a7, MJ.congr (r := r) ⟨fun i hi => ?_, a8.2⟩ (fun n _ => ht.ci (by omega)), fun s => ?_⟩
  · obtain ⟨b1, b2, b3, b4⟩ := a8.1 i hi
    exact ⟨b1, b2, b3, b4.mono h1 h2⟩
  · have h1 := a9 s
    have h2 := RP.of (N := N) ht he hc
    by_cases hs : s = 0
    · rw [if_pos hs] at h1 ⊢; omega
    · rw [if_neg hs] at h1 ⊢; exact h1
/-- a timer is over: what it sends comes of it -/
theorem tg_new1 (hx : x < 24) (hh : h x = t) (hk : k = 6 ∨ k = 12) (hD : D ≤ 20) : tgOK h hb ((t + D, e, c, k, v, n), (1, x, t)) := by
  refine Or.inr (Or.inl ⟨rfl, hx, Nat.le_of_eq hh.symm, ?_⟩)
  show t + D ≤ t + life 1 k
  unfold life
  rw [if_pos rfl, if_pos hk]
  omega
theorem tg_new2 (hx : x < 24) (hh : hb x = t) (hk : k = 8 ∨ k = 10) (hD : D ≤ 20) : tgOK h hb ((t + D, e, c, k, v, n), (2, x, t)) := by
  refine Or.inr (Or.inr ⟨rfl, hx, Nat.le_of_eq hh.symm, ?_⟩)
  show t + D ≤ t + life 2 k
  unfold life
  rw [if_neg (by decide), if_pos hk]
  omega
theorem std_back (hs : ¬ s = 0) (ha : a ≤ std B s) : ∀ i, ad (u1 (std B) s 0) s a i ≤ std B i := fun i => by
  unfold ad
  by_cases h9 : i = s
  · subst h9; rw [u1_s, u1_s]; omega
  · rw [u1_n h9, u1_n h9]; exact Nat.le_refl _
theorem slot1_v (hx : x < 24) : ¬ slot (1, x, t) = 0 ∧ std B (slot (1, x, t)) = 2 := by
  have h1 : slot (1, x, t) = 1 + x * 7 + t / 10 % 7 := by
    unfold slot
    rw [show ((1, x, t) : Tg).1 = 1 from rfl, if_neg (show ¬ (1 : Nat) = 0 by decide), if_pos (show (1 : Nat) = 1 from rfl)]
  rw [h1]
  refine ⟨by omega, ?_⟩
  unfold std
  rw [if_neg (by omega), if_pos (by omega)]
theorem slot2_v (hx : x < 24) : ¬ slot (2, x, t) = 0 ∧ std B (slot (2, x, t)) = 1 := by
  have h1 : slot (2, x, t) = 169 + x * 5 + t / 10 % 5 := by
    unfold slot
    rw [show ((2, x, t) : Tg).1 = 2 from rfl, if_neg (show ¬ (2 : Nat) = 0 by decide), if_neg (show ¬ (2 : Nat) = 1 by decide)]
  rw [h1]
  refine ⟨by omega, ?_⟩
  unfold std
  rw [if_neg (by omega), if_neg (by omega)]
/-- the timer's check of a circuit -/
theorem JG.chk (hJ : JG X β T A h hb N t D r q) (he : e < 2) (hc : c < 12) (hs : r (eI e c 0) = nI 1) (hw : r (eI e c 6) = nI 1) (hA : A ≤ t + D) (hr : Rm r 2) : JG X β T A h hb N t D (pChk r q e c).1 (pChk r q e c).2 := by
  have hN : N ≤ 40 := hJ.1.2.1.2
  have hR1 : Rm r 1 := hr.mono rfl (by decide)
  -- the end is no more one that waits for its check: one part free
  have hβ : 1 ≤ β 0 := by
    obtain ⟨-, -, G, n, -, -, -, a9⟩ := hJ
    have h1 := a9 0
    rw [if_pos rfl] at h1
    have h2 : 1 ≤ RP r N := by
      unfold RP
      have h3 := sumN_one (x := 12 * e + c) (f := fun x => _root_.chk r (x / 12) (x % 12)) (f' := fun x => if x = 12 * e + c then 0 else _root_.chk r (x / 12) (x % 12)) 24 (by omega) (fun i _ hi => by dsimp only; rw [if_neg hi])
      dsimp only at h3
      rw [if_pos rfl, show (12 * e + c) / 12 = e by omega, show (12 * e + c) % 12 = c by omega] at h3
      have h4 : _root_.chk r e c = 1 := by unfold _root_.chk; rw [if_pos ⟨hs, hw⟩]
      omega
    omega
  sorry
end CAP5
