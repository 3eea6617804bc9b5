/-! the class's memory and the reference's row -/
def eA (s e c : Nat) : Nat := s + 8 + (e * 12 + c)
def cA (s n : Nat) : Nat := s + 32 + n
def fw (w : Nat) : Nat := if w < 5 then w + 2 else if w = 5 then 8 else if w = 6 then 9 else if w = 7 then 10 else 7
def gw (w : Nat) : Nat := if w = 0 then 0 else if w = 1 then 3 else if w = 2 then 2 else if w = 3 then 4 else if w = 4 then 5 else 1
/-- where a place of the row lies -/
def lA (j : Nat) : Nat := if j < 12 then (if j = 0 ∨ j = 5 ∨ 8 ≤ j then 0 else if j = 3 ∨ j = 4 then 5 else 4) else if j < 24 then 1 else if j < 240 then 8 + ((j - 24) / 9 % 2 * 12 + (j - 24) / 18) else 32 + (j - 240) / 6
def lF (j : Nat) : Nat := if j < 12 then (if j = 0 then 0 else if j = 1 then 1 else if j = 2 then 0 else if j = 3 then 0 else if j = 4 then 1 else if j = 5 then 3 else if j = 6 then 2 else if j = 7 then 3 else j - 2) else if j < 24 then j - 12 else if j < 240 then fw ((j - 24) % 9) else gw ((j - 240) % 6)
/-- back from there -/
def lB (a f : Nat) : Nat := if a = 0 then (if f = 0 then 0 else if f = 3 then 5 else f + 2) else if a = 4 then (if f = 0 then 2 else if f = 1 then 1 else f + 4) else if a = 5 then 3 + f else if a = 1 then 12 + f else if a < 32 then 24 + 9 * (2 * ((a - 8) % 12) + (a - 8) / 12) + (if f < 7 then f - 2 else if f = 8 then 5 else if f = 9 then 6 else if f = 10 then 7 else 8) else 240 + 6 * (a - 32) + (if f = 0 then 0 else if f = 3 then 1 else if f = 2 then 2 else if f = 4 then 3 else if f = 5 then 4 else 5)
theorem lB_ok : ∀ j, j < 480 → (j = 11 ∨ lB (lA j) (lF j) = j) := by decide +kernel
theorem lA_ok : ∀ j, j < 480 → lA j < 72 ∧ ¬ lA j = 6 ∧ ¬ lA j = 7 ∧ ¬ lA j = 2 ∧ ¬ lA j = 3 := by decide +kernel
/-- which places count -/
def okJ (N j : Nat) : Prop := j < 480 ∧ ¬ j = 11 ∧ (24 ≤ j → j < 240 → ¬ (j - 24) % 9 = 8) ∧ (240 ≤ j → (j - 240) / 6 < N)
def CV (s N : Nat) (r : Nat → Int32) (mi : MI) : Prop := ∀ j, okJ N j → mi (s + lA j) (lF j) = r j
def bOn (z : Int32) : Prop := z = nI 1 ∨ z = nI 3
def CT (s : Nat) (r : Nat → Int32) (mi : MI) : Prop := ∀ e c, e < 2 → c < 12 → (bOn (r (eI e c 4)) → mi (eA s e c) 7 = r (eI e c 8)) ∧ (¬ bOn (r (eI e c 4)) → mi (eA s e c) 7 = nI 0)
def CX (s : Nat) (mi : MI) : Prop := ∀ e c, e < 2 → c < 12 → mi (eA s e c) 0 = nI e ∧ mi (eA s e c) 1 = nI c
def SG (s : Nat) (g : Gh) (mr : MR) : Prop := (g.1 s = 4 ∧ mr s 1 = s + 1 ∧ mr s 2 = s + 2 ∧ mr s 4 = s + 3 ∧ mr s 5 = s + 4) ∧ (g.1 (s + 1) = 22 ∧ g.2.1 (s + 1) = 12 ∧ g.1 (s + 2) = 23 ∧ g.2.1 (s + 2) = 24 ∧ g.1 (s + 3) = 24 ∧ g.2.1 (s + 3) = 40) ∧ (g.1 (s + 4) = 3 ∧ mr (s + 4) 4 = s + 5 ∧ g.1 (s + 5) = 20 ∧ g.2.1 (s + 5) = 2) ∧ (∀ i, i < 24 → g.1 (s + 8 + i) = 2 ∧ mr (s + 2) i = s + 8 + i) ∧ ∀ n, n < 40 → g.1 (cA s n) = 1 ∧ mr (s + 3) n = cA s n
def SA (s a1 a2 L : Nat) (g : Gh) (mr : MR) : Prop := (mr (s + 4) 6 = a1 ∧ mr (s + 4) 7 = a2) ∧ (g.1 a1 = 20 ∧ g.1 a2 = 20 ∧ g.2.1 a1 = L ∧ g.2.1 a2 = L) ∧ ((a1 = s + 6 ∨ 298 ≤ a1) ∧ (a2 = s + 7 ∨ 298 ≤ a2) ∧ ¬ a1 = a2 ∧ a1 < g.2.2.1 ∧ a2 < g.2.2.1) ∧ (1 ≤ s ∧ s + 72 ≤ 298 ∧ 298 ≤ g.2.2.1 ∧ 32 ≤ L ∧ L ≤ 60000 ∧ ∃ k, L = 32 * 2 ^ k)
def ctN (m : Ms) (z : Nat) : Nat := m.2.1 + 2 * m.2.2.1 + 32 * m.2.2.2.1 + 512 * m.2.2.2.2.1 + 4096 * z
def MQc (x : Int64) (a b : Int32) : Prop := ∃ m z, x = enc m ∧ okM m ∧ a = nI m.1 ∧ b = nI (ctN m z) ∧ z ≤ 40 ∧ (m.2.2.2.1 = 0 → z = m.2.2.2.2.2 + 1)
def CQ (off n a1 a2 : Nat) (r : Nat → Int32) (q : Nat → Int64) (mi : MI) : Prop := (∀ i, i < n → MQc (q i) (mi a1 (off + i)) (mi a2 (off + i))) ∧ ∀ i, i < off → mi a1 i = r 2
/-- the class's state at s is the reference's -/
def CS (s off N n a1 a2 L : Nat) (r : Nat → Int32) (q : Nat → Int64) (g : Gh) (mi : MI) (mr : MR) : Prop := SG s g mr ∧ SA s a1 a2 L g mr ∧ (CV s N r mi ∧ CT s r mi ∧ CX s mi) ∧ (r 11 = nI n ∧ mi (s + 4) 5 = nI (off + n) ∧ off + n ≤ L ∧ off ≤ 12500) ∧ CQ off n a1 a2 r q mi
section CREL
variable {s off N n a1 a2 L e c w k v j f a : Nat} {r r' : Nat → Int32} {q : Nat → Int64} {g : Gh} {mi mi' : MI} {mr : MR} {z z1 : Int32}
theorem okJ_e (he : e < 2) (hc : c < 12) (hw : w < 8) : okJ N (eI e c w) := ⟨by have := eI_lt he hc (show w < 9 by omega); omega, by have := eI_ge (e := e) (c := c) (w := w); omega, fun _ _ => by rw [eI_mod (by omega)]; omega, fun h => by have := eI_lt he hc (show w < 9 by omega); omega⟩
theorem okJ_c (hn : n < N) (hN : N ≤ 40) (hw : w < 6) : okJ N (cI n w) := ⟨by unfold cI; omega, by unfold cI; omega, fun _ h => by unfold cI at h; omega, fun _ => by unfold cI; omega⟩
theorem okJ_l (hj : j < 24) (h : ¬ j = 11) : okJ N j := ⟨by omega, h, fun h9 => by omega, fun h9 => by omega⟩
theorem loc_e (he : e < 2) (hc : c < 12) (hw : w < 9) : s + lA (eI e c w) = eA s e c ∧ lF (eI e c w) = fw w := by
  have h1 := eI_lt he hc hw
  have h2 := eI_ge (e := e) (c := c) (w := w)
  unfold lA lF
  rw [if_neg (by omega), if_neg (by omega), if_pos h1, if_neg (by omega), if_neg (by omega), if_pos h1, eI_mod hw]
  refine ⟨?_, rfl⟩
  unfold eA eI
  omega
theorem loc_c (hw : w < 6) : s + lA (cI n w) = cA s n ∧ lF (cI n w) = gw w := by
  have h2 := cI_ge (n := n) (w := w)
  unfold lA lF
  rw [if_neg (by omega), if_neg (by omega), if_neg (by omega), if_neg (by omega), if_neg (by omega), if_neg (by omega), cI_mod hw]
  refine ⟨?_, rfl⟩
  unfold cA cI
  omega
/-- one place is written on both sides -/
theorem CV.up {j0 : Nat} (h : CV s N r mi) (hj : j0 < 480) (h11 : ¬ j0 = 11) : CV s N (u1 r j0 z) (u2 mi (s + lA j0) (lF j0) z) := fun j hk => by
  by_cases h1 : j = j0
  · subst h1; rw [u1_s, u2_at]
  · rw [u1_n h1, u2_oth (fun h9 => h1 (by
      have e1 := (lB_ok j hk.1).resolve_left hk.2.1
      have e2 := (lB_ok j0 hj).resolve_left h11
      have h8 : lA j = lA j0 := by omega
      rw [← e1, ← e2, h8, h9.2]))]
    exact h j hk
theorem CV.row (h : CV s N r mi) (hr : ∀ j, okJ N j → r' j = r j) : CV s N r' mi := fun j hk => (h j hk).trans (hr j hk).symm
theorem CV.mem (h : CV s N r mi) (hm : ∀ b f, s ≤ b → b < s + 72 → ¬ b = s + 6 → ¬ b = s + 7 → mi' b f = mi b f) : CV s N r mi' := fun j hk => by
  obtain ⟨h1, h2, h3, -, -⟩ := lA_ok j hk.1
  rw [hm _ _ (by omega) (by omega) (by omega) (by omega)]
  exact h j hk
theorem CV.skip (h : CV s N r mi) (hs : ∀ j, okJ N j → ¬ (a = s + lA j ∧ f = lF j)) : CV s N r (u2 mi a f z) := fun j hk => by
  rw [u2_oth (fun h9 => hs j hk ⟨h9.1.symm, h9.2.symm⟩)]
  exact h j hk
theorem eA_inj {e' c' : Nat} (hc : c < 12) (hc' : c' < 12) (h : eA s e c = eA s e' c') : e = e' ∧ c = c' := by
  unfold eA at h; omega
theorem fw_n (hw : w < 9) (h8 : ¬ w = 8) : ¬ fw w = 7 ∧ ¬ fw w = 0 ∧ ¬ fw w = 1 := by
  have : w = 0 ∨ w = 1 ∨ w = 2 ∨ w = 3 ∨ w = 4 ∨ w = 5 ∨ w = 6 ∨ w = 7 := by omega
  rcases this with rfl | rfl | rfl | rfl | rfl | rfl | rfl | rfl <;> decide
theorem SA.out (h : SA s a1 a2 L g mr) (ha : s ≤ a) (ha2 : a < s + 72) (h6 : ¬ a = s + 6) (h7 : ¬ a = s + 7) : ¬ a1 = a ∧ ¬ a2 = a := by
  obtain ⟨-, -, ⟨g1, g2, -⟩, g3⟩ := h
  omega
/-- an end's field that is no mark of blocking -/
theorem CS.ef (h : CS s off N n a1 a2 L r q g mi mr) (he : e < 2) (hc : c < 12) (hw : w < 8) (h4 : ¬ w = 4) (hf : fw w = f) : CS s off N n a1 a2 L (sE r e c w z) q g (u2 mi (eA s e c) f z) mr := by
  obtain ⟨h1, h2, ⟨h3, h5, h6⟩, ⟨h7, h8, h9⟩, h10, h11⟩ := h
  have hl := loc_e (s := s) he hc (show w < 9 by omega)
  obtain ⟨f7, f0, f1⟩ := fw_n (show w < 9 by omega) (show ¬ w = 8 by omega)
  rw [hf] at f7 f0 f1
  have hlt := eI_lt he hc (show w < 9 by omega)
  have hge := eI_ge (e := e) (c := c) (w := w)
  have ho := h2.out (a := eA s e c) (by unfold eA; omega) (by unfold eA; omega) (by unfold eA; omega) (by unfold eA; omega)
  refine ⟨h1, h2, ⟨?_, fun e' c' he' hc' => ?_, fun e' c' he' hc' => ?_⟩, ⟨(sE_11 he hc (by omega)).trans h7, ?_, h9⟩, fun i hi => ?_, fun i hi => ?_⟩
  · have := h3.up (z := z) (j0 := eI e c w) (by omega) (by omega)
    rw [hl.1, hl.2, hf] at this
    exact this
  · rw [u2_oth (fun h => f7 h.2.symm)]
    have e4 : sE r e c w z (eI e' c' 4) = r (eI e' c' 4) := u1_n (by unfold eI; omega)
    have e8 : sE r e c w z (eI e' c' 8) = r (eI e' c' 8) := u1_n (by unfold eI; omega)
    rw [e4, e8]
    exact h5 e' c' he' hc'
  · rw [u2_oth (fun h => f0 h.2.symm), u2_oth (fun h => f1 h.2.symm)]
    exact h6 e' c' he' hc'
  · rw [u2_oth (fun h => by have := h.1; unfold eA at this; omega)]; exact h8
  · rw [u2_row ho.1, u2_row ho.2]; exact h10 i hi
  · rw [u2_row ho.1, show sE r e c w z 2 = r 2 from u1_n (by omega)]; exact h11 i hi
/-- a call's field -/
theorem CS.c_ {m : Nat} (h : CS s off N n a1 a2 L r q g mi mr) (hm : m < 40) (hw : w < 6) (hf : gw w = f) : CS s off N n a1 a2 L (sC r m w z) q g (u2 mi (cA s m) f z) mr := by
  obtain ⟨h1, h2, ⟨h3, h5, h6⟩, ⟨h7, h8, h9⟩, h10, h11⟩ := h
  have hl := loc_c (s := s) (n := m) hw
  have hge := cI_ge (n := m) (w := w)
  have ho := h2.out (a := cA s m) (by unfold cA; omega) (by unfold cA; omega) (by unfold cA; omega) (by unfold cA; omega)
  have hea : ∀ {e c}, e < 2 → c < 12 → ¬ eA s e c = cA s m := fun he hc => by unfold eA cA; omega
  refine ⟨h1, h2, ⟨?_, fun e' c' he' hc' => ?_, fun e' c' he' hc' => ?_⟩, ⟨(sC_n (by decide)).trans h7, ?_, h9⟩, fun i hi => ?_, fun i hi => ?_⟩
  · have := h3.up (z := z) (j0 := cI m w) (by unfold cI; omega) (by omega)
    rw [hl.1, hl.2, hf] at this
    exact this
  · rw [u2_row (hea he' hc'), sC_n (eI_lt he' hc' (by decide)), sC_n (eI_lt he' hc' (by decide))]
    exact h5 e' c' he' hc'
  · rw [u2_row (hea he' hc')]
    exact h6 e' c' he' hc'
  · rw [u2_row (by unfold cA; omega)]; exact h8
  · rw [u2_row ho.1, u2_row ho.2]; exact h10 i hi
  · rw [u2_row ho.1, sC_n (by decide)]; exact h11 i hi
/-- one of the first places -/
theorem CS.lo (h : CS s off N n a1 a2 L r q g mi mr) (hj : j < 24) (hj2 : ¬ j = 11) (h2' : j = 2 → off = 0) (ha : s + lA j = a) (hf : lF j = f) : CS s off N n a1 a2 L (u1 r j z) q g (u2 mi a f z) mr := by
  obtain ⟨h1, h2, ⟨h3, h5, h6⟩, ⟨h7, h8, h9⟩, h10, h11⟩ := h
  have hl : lA j = 0 ∨ lA j = 1 ∨ lA j = 4 ∨ lA j = 5 := by
    have : ∀ j, j < 24 → lA j = 0 ∨ lA j = 1 ∨ lA j = 4 ∨ lA j = 5 := by decide
    exact this j hj
  have hl5 : ¬ (lA j = 4 ∧ lF j = 5) := by
    have : ∀ j, j < 24 → ¬ j = 11 → ¬ (lA j = 4 ∧ lF j = 5) := by decide
    exact this j hj hj2
  have ho := h2.out (a := a) (by omega) (by omega) (by omega) (by omega)
  have hea : ∀ {e c}, ¬ eA s e c = a := fun {e c} => by unfold eA; omega
  refine ⟨h1, h2, ⟨?_, fun e' c' he' hc' => ?_, fun e' c' he' hc' => ?_⟩, ⟨(u1_n (fun h => hj2 h.symm)).trans h7, ?_, h9⟩, fun i hi => ?_, fun i hi => ?_⟩
  · have := h3.up (z := z) (j0 := j) (by omega) hj2
    rw [ha, hf] at this
    exact this
  · have hge := fun w => eI_ge (e := e') (c := c') (w := w)
    rw [u2_row hea, u1_n (by have := hge 4; omega), u1_n (by have := hge 8; omega)]
    exact h5 e' c' he' hc'
  · rw [u2_row hea]
    exact h6 e' c' he' hc'
  · rw [u2_oth (fun h => hl5 ⟨by have := h.1; omega, by rw [hf]; exact h.2.symm⟩)]; exact h8
  · rw [u2_row ho.1, u2_row ho.2]; exact h10 i hi
  · by_cases hj9 : j = 2
    · have := h2' hj9; omega
    · rw [u2_row ho.1, u1_n (fun h => hj9 h.symm)]; exact h11 i hi
/-- the marks of blocking -/
theorem CS.bk (h : CS s off N n a1 a2 L r q g mi mr) (he : e < 2) (hc : c < 12) (hb1 : bOn z → z1 = r' (eI e c 8)) (hb0 : ¬ bOn z → z1 = nI 0) (h4 : r' (eI e c 4) = z) (hr : ∀ j, ¬ j = eI e c 4 → ¬ j = eI e c 8 → r' j = r j) : CS s off N n a1 a2 L r' q g (u2 (u2 mi (eA s e c) 6 z) (eA s e c) 7 z1) mr := by
  obtain ⟨h1, h2, ⟨h3, h5, h6⟩, ⟨h7, h8, h9⟩, h10, h11⟩ := h
  have hl := loc_e (s := s) he hc (show 4 < 9 by decide)
  have l4 := eI_lt he hc (show 4 < 9 by decide)
  have g4 := eI_ge (e := e) (c := c) (w := 4)
  have l8 := eI_lt he hc (show 8 < 9 by decide)
  have g8 := eI_ge (e := e) (c := c) (w := 8)
  have ho := h2.out (a := eA s e c) (by unfold eA; omega) (by unfold eA; omega) (by unfold eA; omega) (by unfold eA; omega)
  have hr11 : r' 11 = r 11 := hr 11 (by omega) (by omega)
  have hr2 : r' 2 = r 2 := hr 2 (by omega) (by omega)
  refine ⟨h1, h2, ⟨?_, fun e' c' he' hc' => ?_, fun e' c' he' hc' => ?_⟩, ⟨hr11.trans h7, ?_, h9⟩, fun i hi => ?_, fun i hi => ?_⟩
  · have h12 := h3.up (z := z) (j0 := eI e c 4) (by omega) (by omega)
    rw [hl.1, hl.2, show fw 4 = 6 from rfl] at h12
    have h13 : CV s N r' (u2 mi (eA s e c) 6 z) := h12.row (fun j hk => by
      by_cases hj4 : j = eI e c 4
      · subst hj4; rw [u1_s]; exact h4
      · rw [u1_n hj4]
        refine hr j hj4 (fun hj8 => ?_)
        exact hk.2.2.1 (by omega) (by omega) (by rw [hj8]; exact eI_mod (by decide)))
    refine h13.skip (fun j hk h9' => ?_)
    have l8' := loc_e (s := s) he hc (show 8 < 9 by decide)
    have e1 := (lB_ok j hk.1).resolve_left hk.2.1
    have e2 := (lB_ok (eI e c 8) (by omega)).resolve_left (by omega)
    have hjj : j = eI e c 8 := by
      rw [← e1, ← e2, l8'.2, ← h9'.2, show lA j = lA (eI e c 8) by omega]; rfl
    exact hk.2.2.1 (by omega) (by omega) (by rw [hjj]; exact eI_mod (by decide))
  · by_cases hee : e' = e ∧ c' = c
    · obtain ⟨rfl, rfl⟩ := hee
      rw [u2_at, h4]
      exact ⟨hb1, hb0⟩
    · rw [u2_oth (fun h => hee (eA_inj hc' hc h.1)), u2_oth (fun h => hee (eA_inj hc' hc h.1)), hr _ (by unfold eI; omega) (by unfold eI; omega), hr _ (by unfold eI; omega) (by unfold eI; omega)]
      exact h5 e' c' he' hc'
  · rw [u2_oth (fun h => absurd h.2 (by decide)), u2_oth (fun h => absurd h.2 (by decide)), u2_oth (fun h => absurd h.2 (by decide)), u2_oth (fun h => absurd h.2 (by decide))]
    exact h6 e' c' he' hc'
  · rw [u2_row (by unfold eA; omega), u2_row (by unfold eA; omega)]; exact h8
  · rw [u2_row ho.1, u2_row ho.2, u2_row ho.1, u2_row ho.2]; exact h10 i hi
  · rw [u2_row ho.1, u2_row ho.1, hr2]; exact h11 i hi
/-- the same row, seen otherwise -/
theorem CS.eqv (h : CS s off N n a1 a2 L r q g mi mr) (hr : ∀ j, r' j = r j) : CS s off N n a1 a2 L r' q g mi mr := by
  have : r' = r := funext hr
  rw [this]; exact h
end CREL
