/-! the class: four states, one of them now -/
def Ad (k : Nat) : Nat := 4 + 72 * k
def nC (r : Nat → Int32) : Nat := (r 5).toNatClampNeg
/-- four states, side by side -/
def TS (E : Nat) (x1 x2 Ln : Nat → Nat) (g : Gh) (mi : MI) (mr : MR) : Prop := (∀ k, k < 4 → DS (Ad k) (x1 k) (x2 k) (Ln k) g mi mr) ∧ (∀ k k', k < 4 → k' < 4 → ¬ k = k' → ¬ x1 k = x1 k' ∧ ¬ x1 k = x2 k' ∧ ¬ x2 k = x1 k' ∧ ¬ x2 k = x2 k') ∧ (310000 + E ≤ g.2.2.2.1 + (Ln 0 + Ln 1 + Ln 2 + Ln 3) ∧ 1320000 + 6 * E ≤ g.2.2.2.2 + 4 * (Ln 0 + Ln 1 + Ln 2 + Ln 3))
/-- what lies outside of the four states -/
def OF (g : Gh) (mi : MI) (ml : ML) (mr : MR) (g' : Gh) (mi' : MI) (ml' : ML) (mr' : MR) : Prop := ∀ a, (1 ≤ a ∧ a < 4) ∨ (292 ≤ a ∧ a < 298) → mi' a = mi a ∧ ml' a = ml a ∧ mr' a = mr a ∧ g'.1 a = g.1 a ∧ g'.2.1 a = g.2.1 a
section CTG
variable {s s2 off N n n0 a1 a2 b1 b2 L M e c w k k0 v j f a d o z x y t D p i C J B lo hi E K c1 c2 M' L' : Nat} {r r' r1 : Nat → Int32} {q q' : Nat → Int64} {g g' : Gh} {mi mi' m' : MI} {ml ml' l' : ML} {mr mr' : MR} {x1 x2 Ln pm : Nat → Nat} {S : Nat → PS} {P P' : PS}
theorem keepA (h2 : SA s2 a1 a2 L g mr) (hT : Tr s b1 b2 M g mi ml mr c1 c2 M' g' m' l' mr') (hd : s2 + 72 ≤ s ∨ s + 72 ≤ s2) (e11 : ¬ a1 = b1) (e12 : ¬ a1 = b2) (e21 : ¬ a2 = b1) (e22 : ¬ a2 = b2) (hb1 : b1 = s + 6 ∨ 298 ≤ b1) (hb2 : b2 = s + 7 ∨ 298 ≤ b2) (hs : s + 72 ≤ 298) : (∀ a, s2 ≤ a → a < s2 + 72 → m' a = mi a ∧ mr' a = mr a ∧ g'.1 a = g.1 a ∧ g'.2.1 a = g.2.1 a) ∧ (m' a1 = mi a1 ∧ m' a2 = mi a2) ∧ SA s2 a1 a2 L g' mr' := by
  obtain ⟨⟨i6, i7⟩, ⟨i1, i2, i3, i4⟩, ⟨i8, i9, i10, i11, i12⟩, i13, i14, i15, i16, i17, i18⟩ := h2
  obtain ⟨⟨q1, q2, -, -⟩, -⟩ := hT
  have hbl : ∀ a, s2 ≤ a → a < s2 + 72 → m' a = mi a ∧ mr' a = mr a ∧ g'.1 a = g.1 a ∧ g'.2.1 a = g.2.1 a := fun a ha ha2 => by
    have z1 : ¬ (s ≤ a ∧ a < s + 72) := by omega
    have z2 : ¬ a = b1 := by omega
    have z3 : ¬ a = b2 := by omega
    obtain ⟨w1, w2, w3, w4⟩ := q1 a (by omega)
    exact ⟨(w4 z1 z2 z3).1, (w4 z1 z2 z3).2, w2, w3⟩
  have o1 : ¬ (s ≤ a1 ∧ a1 < s + 72) := by omega
  have o2 : ¬ (s ≤ a2 ∧ a2 < s + 72) := by omega
  obtain ⟨-, v2, v3, v4⟩ := q1 a1 i11
  obtain ⟨-, w2, w3, w4⟩ := q1 a2 i12
  have r4 := (hbl (s2 + 4) (Nat.le_add_right s2 4) (Nat.add_lt_add_left (by decide) s2)).2.1
  refine ⟨hbl, ⟨(v4 o1 e11 e12).1, (w4 o2 e21 e22).1⟩, ⟨by rw [r4]; exact i6, by rw [r4]; exact i7⟩, ⟨v2.trans i1, w2.trans i2, v3.trans i3, w3.trans i4⟩, ⟨i8, i9, i10, Nat.lt_of_lt_of_le i11 q2, Nat.lt_of_lt_of_le i12 q2⟩, i13, i14, Nat.le_trans i15 q2, i16, i17, i18⟩
theorem SG.keep (h1 : SG s2 g mr) (hb : ∀ a, s2 ≤ a → a < s2 + 72 → m' a = mi a ∧ mr' a = mr a ∧ g'.1 a = g.1 a ∧ g'.2.1 a = g.2.1 a) : SG s2 g' mr' := by
  obtain ⟨⟨x1, x2, x3, x4, x5⟩, ⟨x6, x7, x8, x9, x10, x11⟩, ⟨x12, x13, x14, x15⟩, x16, x17⟩ := h1
  have hb' : ∀ a, a < 72 → mr' (s2 + a) = mr (s2 + a) ∧ g'.1 (s2 + a) = g.1 (s2 + a) ∧ g'.2.1 (s2 + a) = g.2.1 (s2 + a) := fun a ha => (hb _ (Nat.le_add_right s2 a) (Nat.add_lt_add_left ha s2)).2
  have r0 := hb' 0 (by decide)
  rw [Nat.add_zero] at r0
  refine ⟨⟨r0.2.1.trans x1, by rw [r0.1]; exact x2, by rw [r0.1]; exact x3, by rw [r0.1]; exact x4, by rw [r0.1]; exact x5⟩, ⟨(hb' 1 (by decide)).2.1.trans x6, (hb' 1 (by decide)).2.2.trans x7, (hb' 2 (by decide)).2.1.trans x8, (hb' 2 (by decide)).2.2.trans x9, (hb' 3 (by decide)).2.1.trans x10, (hb' 3 (by decide)).2.2.trans x11⟩, ⟨(hb' 4 (by decide)).2.1.trans x12, by rw [(hb' 4 (by decide)).1]; exact x13, (hb' 5 (by decide)).2.1.trans x14, (hb' 5 (by decide)).2.2.trans x15⟩, fun i hi => ?_, fun i hi => ?_⟩
  · have hk := (hb' (8 + i) (by omega)).2.1
    rw [← Nat.add_assoc] at hk
    exact ⟨hk.trans (x16 i hi).1, by rw [(hb' 2 (by decide)).1]; exact (x16 i hi).2⟩
  · have hk := (hb' (32 + i) (by omega)).2.1
    rw [← Nat.add_assoc] at hk
    exact ⟨hk.trans (x17 i hi).1, by rw [(hb' 3 (by decide)).1]; exact (x17 i hi).2⟩
theorem Ad_d (hk : k < 4) (h0 : k0 < 4) (hne : ¬ k = k0) : Ad k + 72 ≤ Ad k0 ∨ Ad k0 + 72 ≤ Ad k := by unfold Ad; omega
theorem Ad_b (hk : k < 4) : Ad k + 72 ≤ 298 ∧ 4 ≤ Ad k ∧ Ad k + 72 ≤ 292 := by unfold Ad; omega
theorem TS.kp (hS : TS E x1 x2 Ln g mi mr) (h0 : k0 < 4) (hk : k < 4) (hne : ¬ k = k0) (hT : Tr (Ad k0) (x1 k0) (x2 k0) (Ln k0) g mi ml mr b1 b2 L' g' m' l' mr') : (∀ a, Ad k ≤ a → a < Ad k + 72 → m' a = mi a ∧ mr' a = mr a ∧ g'.1 a = g.1 a ∧ g'.2.1 a = g.2.1 a) ∧ (m' (x1 k) = mi (x1 k) ∧ m' (x2 k) = mi (x2 k)) ∧ SA (Ad k) (x1 k) (x2 k) (Ln k) g' mr' := by
  obtain ⟨t1, t2, -⟩ := hS
  obtain ⟨d1, d2, d3, d4⟩ := t2 k k0 hk h0 hne
  obtain ⟨-, y2, -⟩ := t1 k0 h0
  exact keepA (t1 k hk).2.1 hT (Ad_d hk h0 hne) d1 d2 d3 d4 y2.2.2.1.1 y2.2.2.1.2.1 (Ad_b h0).1
/-- a state that wasn't touched -/
theorem TS.cs (hS : TS E x1 x2 Ln g mi mr) (h0 : k0 < 4) (hk : k < 4) (hne : ¬ k = k0) (hT : Tr (Ad k0) (x1 k0) (x2 k0) (Ln k0) g mi ml mr b1 b2 L' g' m' l' mr') (h : CS (Ad k) 0 N n (x1 k) (x2 k) (Ln k) r q g mi mr) : CS (Ad k) 0 N n (x1 k) (x2 k) (Ln k) r q g' m' mr' := by
  obtain ⟨u1, ⟨u2, u3⟩, u4⟩ := hS.kp h0 hk hne hT
  exact h.move (fun a ha ha2 => (u1 a ha ha2).2.2) (fun a ha ha2 _ _ => (u1 a ha ha2).1) (fun a f ha ha2 _ => by rw [(u1 a ha ha2).2.1]) u4 (Nat.le_refl _) (fun i _ => by rw [u2]) (fun i _ => by rw [u3])
theorem TS.up (hS : TS E x1 x2 Ln g mi mr) (h0 : k0 < 4) (hD : DS (Ad k0) b1 b2 L' g' m' mr') (hT : Tr (Ad k0) (x1 k0) (x2 k0) (Ln k0) g mi ml mr b1 b2 L' g' m' l' mr') : TS E (u1 x1 k0 b1) (u1 x2 k0 b2) (u1 Ln k0 L') g' m' mr' := by
  have hS' := hS
  obtain ⟨t1, t2, t3, t4⟩ := hS
  obtain ⟨⟨-, -, q3, q4⟩, q5, q6⟩ := id hT
  have lt1 : ∀ k, k < 4 → x1 k < g.2.2.1 ∧ x2 k < g.2.2.1 := fun k hk => ⟨(t1 k hk).2.1.2.2.1.2.2.2.1, (t1 k hk).2.1.2.2.1.2.2.2.2⟩
  refine ⟨fun k hk => ?_, fun k k' hk hk' hne => ?_, ?_, ?_⟩
  · by_cases hkk : k = k0
    · subst hkk; rw [u1_s, u1_s, u1_s]; exact hD
    · rw [u1_n hkk, u1_n hkk, u1_n hkk]
      obtain ⟨w1, -, w3⟩ := hS'.kp h0 hk hkk hT
      refine ⟨(t1 k hk).1.keep w1, w3, fun e c he hc => ?_⟩
      have := (w1 (eA (Ad k) e c) (by unfold eA; omega) (by unfold eA; omega)).1
      rw [this]
      exact (t1 k hk).2.2 e c he hc
  · have f1 := t2 k k' hk hk' hne
    by_cases hkk : k = k0
    · subst hkk
      have hk'' : ¬ k' = k := fun h9 => hne h9.symm
      rw [u1_s, u1_s, u1_n hk'', u1_n hk'']
      have l1 := lt1 k' hk'
      refine ⟨?_, ?_, ?_, ?_⟩
      · rcases q3 with h9 | h9
        · rw [h9]; exact f1.1
        · omega
      · rcases q3 with h9 | h9
        · rw [h9]; exact f1.2.1
        · omega
      · rcases q4 with h9 | h9
        · rw [h9]; exact f1.2.2.1
        · omega
      · rcases q4 with h9 | h9
        · rw [h9]; exact f1.2.2.2
        · omega
    · rw [u1_n hkk, u1_n hkk]
      by_cases hkk' : k' = k0
      · subst hkk'
        rw [u1_s, u1_s]
        have l1 := lt1 k hk
        refine ⟨?_, ?_, ?_, ?_⟩
        · rcases q3 with h9 | h9
          · rw [h9]; exact f1.1
          · omega
        · rcases q4 with h9 | h9
          · rw [h9]; exact f1.2.1
          · omega
        · rcases q3 with h9 | h9
          · rw [h9]; exact f1.2.2.1
          · omega
        · rcases q4 with h9 | h9
          · rw [h9]; exact f1.2.2.2
          · omega
      · rw [u1_n hkk', u1_n hkk']; exact f1
  · have hk4 : k0 = 0 ∨ k0 = 1 ∨ k0 = 2 ∨ k0 = 3 := by omega
    clear q3 q4
    rcases hk4 with rfl | rfl | rfl | rfl <;> simp only [u1_s, u1_n (show ¬ (0 : Nat) = 1 by decide), u1_n (show ¬ (0 : Nat) = 2 by decide), u1_n (show ¬ (0 : Nat) = 3 by decide), u1_n (show ¬ (1 : Nat) = 0 by decide), u1_n (show ¬ (1 : Nat) = 2 by decide), u1_n (show ¬ (1 : Nat) = 3 by decide), u1_n (show ¬ (2 : Nat) = 0 by decide), u1_n (show ¬ (2 : Nat) = 1 by decide), u1_n (show ¬ (2 : Nat) = 3 by decide), u1_n (show ¬ (3 : Nat) = 0 by decide), u1_n (show ¬ (3 : Nat) = 1 by decide), u1_n (show ¬ (3 : Nat) = 2 by decide)] <;> omega
  · have hk4 : k0 = 0 ∨ k0 = 1 ∨ k0 = 2 ∨ k0 = 3 := by omega
    clear q3 q4
    rcases hk4 with rfl | rfl | rfl | rfl <;> simp only [u1_s, u1_n (show ¬ (0 : Nat) = 1 by decide), u1_n (show ¬ (0 : Nat) = 2 by decide), u1_n (show ¬ (0 : Nat) = 3 by decide), u1_n (show ¬ (1 : Nat) = 0 by decide), u1_n (show ¬ (1 : Nat) = 2 by decide), u1_n (show ¬ (1 : Nat) = 3 by decide), u1_n (show ¬ (2 : Nat) = 0 by decide), u1_n (show ¬ (2 : Nat) = 1 by decide), u1_n (show ¬ (2 : Nat) = 3 by decide), u1_n (show ¬ (3 : Nat) = 0 by decide), u1_n (show ¬ (3 : Nat) = 1 by decide), u1_n (show ¬ (3 : Nat) = 2 by decide)] <;> omega
theorem TS.rm (hS : TS E x1 x2 Ln g mi mr) (h0 : k0 < 4) : RmC (Ln k0) g := by
  obtain ⟨t1, -, t3, t4⟩ := hS
  have hL : ∀ k, k < 4 → Ln k ≤ 60000 := fun k hk => (t1 k hk).2.1.2.2.2.2.2.2.2.1
  have l0 := hL 0 (by decide)
  have l1 := hL 1 (by decide)
  have l2 := hL 2 (by decide)
  have l3 := hL 3 (by decide)
  have hk4 : k0 = 0 ∨ k0 = 1 ∨ k0 = 2 ∨ k0 = 3 := by omega
  unfold RmC
  rcases hk4 with rfl | rfl | rfl | rfl <;> omega
theorem TS.of (hS : TS E x1 x2 Ln g mi mr) (h0 : k0 < 4) (hT : Tr (Ad k0) (x1 k0) (x2 k0) (Ln k0) g mi ml mr b1 b2 L' g' m' l' mr') : OF g mi ml mr g' m' l' mr' := fun a ha => by
  obtain ⟨⟨q1, -⟩, -⟩ := hT
  have hy := (hS.1 k0 h0).2.1
  have i15 := hy.2.2.2.2.2.1
  have hb := Ad_b h0
  obtain ⟨w1, w2, w3, w4⟩ := q1 a (by omega)
  have z1 : ¬ (Ad k0 ≤ a ∧ a < Ad k0 + 72) := by omega
  have b1' : ¬ a = x1 k0 := by have := hy.2.2.1.1; omega
  have b2' : ¬ a = x2 k0 := by have := hy.2.2.1.2.1; omega
  have := w4 z1 b1' b2'
  exact ⟨this.1, w1, this.2, w2, w3⟩
theorem OF.rf : OF g mi ml mr g mi ml mr := fun _ _ => ⟨rfl, rfl, rfl, rfl, rfl⟩
theorem OF.tr {g2 : Gh} {m2 : MI} {l2 : ML} {r2' : MR} (h : OF g mi ml mr g' mi' ml' mr') (h2 : OF g' mi' ml' mr' g2 m2 l2 r2') : OF g mi ml mr g2 m2 l2 r2' := fun a ha => by
  obtain ⟨a1, a2, a3, a4, a5⟩ := h a ha
  obtain ⟨b1, b2, b3, b4, b5⟩ := h2 a ha
  exact ⟨b1.trans a1, b2.trans a2, b3.trans a3, b4.trans a4, b5.trans a5⟩
end CTG
