/-! the law: all of it -/
section LRUN
variable {L : Nat} {xs : Nat → Int32} {g : Gh} {mi : MI} {ml : ML} {mr : MR}
theorem law_run (hL : L ≤ 2048) (hn : g.2.2.1 = 2) (s1 : g.1 1 = 30) (s2 : g.2.1 1 = L) (hc : g.2.2.2.1 = 601024) (hu : g.2.2.2.2 = 7293033) (s3 : ∀ j, mi 1 j = xs j) : ∃ h', R 12 mL_law 0 [.ref 1, .null, .null, .null, .null, .null, .null] [] g mi ml mr = some (.inl (some (.int (nI 1))), h') := by
  have a1 := newG_o (g := g) (a := 1) (kd := 5) (n' := 0) (c' := g.2.2.2.1 - 1) (s' := g.2.2.2.2 - 3) (by omega)
  have a2 : (newG g 5 0 (g.2.2.2.1 - 1) (g.2.2.2.2 - 3)).1 2 = 5 := by rw [← hn]; exact newG_k
  have a3 : (newG g 5 0 (g.2.2.2.1 - 1) (g.2.2.2.2 - 3)).2.2.1 = 3 := by show g.2.2.1 + 1 = 3; omega
  obtain ⟨G, M, W, Q, e1, I1, e2, e3⟩ := c_i4 (d := 7) (ml := z2 ml 2 0) (mr := z2 mr 2 0) (mi := z2 mi 2 0) (g := newG g 5 0 (g.2.2.2.1 - 1) (g.2.2.2.2 - 3)) (c := 601022) (u := 7293027) (L := L) (xs := xs) a3 a2 (by show g.2.2.2.1 - 1 = 601022 + 1; omega) (by show g.2.2.2.2 - 3 = 7293027 + 3; omega) (by omega) (by omega) (a1.1.trans s1) (a1.2.trans s2) (fun j => by rw [z2_o (by decide)]; exact s3 j)
  have e1 : callT 12 mX4_init [.ref 2] (newG g 5 0 (g.2.2.2.1 - 1) (g.2.2.2.2 - 3), z2 mi 2 0, z2 ml 2 0, z2 mr 2 0) = some (.inl none, G, M, W, Q) := e1
  obtain ⟨⟨b1, b2, b3⟩, -, ⟨b4, b5, b6⟩, -⟩ := id I1
  have b1 : G.2.2.1 = 292 := b1
  have c1 : (newG G 6 0 (G.2.2.2.1 - 1) (G.2.2.2.2 - 7)).1 292 = 6 := by rw [← b1]; exact newG_k
  have c2 : (newG G 6 0 (G.2.2.2.1 - 1) (G.2.2.2.2 - 7)).2.2.1 = 293 := by show G.2.2.1 + 1 = 293; omega
  obtain ⟨G2, M2, W2, Q2, f1, f2, f3, f4, ⟨f5, f6, f7⟩, f8⟩ := c_i5 (d := 9) (ml := z2 W 292 0) (mr := z2 Q 292 0) (mi := z2 M 292 0) (g := newG G 6 0 (G.2.2.2.1 - 1) (G.2.2.2.2 - 7)) c2 c1 (by show 4 ≤ G.2.2.2.1 - 1; omega) (by show 51920 ≤ G.2.2.2.2 - 7; omega)
  have f1 : callT 12 mX5_init [.ref 292] (newG G 6 0 (G.2.2.2.1 - 1) (G.2.2.2.2 - 7), z2 M 292 0, z2 W 292 0, z2 Q 292 0) = some (.inl none, G2, M2, W2, Q2) := f1
  have f6 : G2.2.2.2.1 + 4 = G.2.2.2.1 - 1 := f6
  have f7 : G2.2.2.2.2 + 51920 = G.2.2.2.2 - 7 := f7
  have fr : ∀ a, 1 ≤ a → a < 292 → (newG G2 21 1 (G2.2.2.2.1 - 1) (G2.2.2.2.2 - 1)).1 a = G.1 a ∧ (newG G2 21 1 (G2.2.2.2.1 - 1) (G2.2.2.2.2 - 1)).2.1 a = G.2.1 a ∧ z2 M2 297 0 a = M a ∧ z2 Q2 297 0 a = Q a := fun a ha hb => by
    obtain ⟨g1, g2, g3, g4⟩ := f8 a hb
    have o1 := newG_o (g := G2) (a := a) (kd := 21) (n' := 1) (c' := G2.2.2.2.1 - 1) (s' := G2.2.2.2.2 - 1) (by omega)
    have o2 := newG_o (g := G) (a := a) (kd := 6) (n' := 0) (c' := G.2.2.2.1 - 1) (s' := G.2.2.2.2 - 7) (by omega)
    refine ⟨o1.1.trans (g1.trans o2.1), o1.2.trans (g2.trans o2.2), ?_, ?_⟩
    · rw [z2_o (by omega), g3, z2_o (by omega)]
    · rw [z2_o (by omega), g4, z2_o (by omega)]
  have hx : ∀ a, a < 297 → (newG G2 21 1 (G2.2.2.2.1 - 1) (G2.2.2.2.2 - 1)).1 a = G2.1 a ∧ (newG G2 21 1 (G2.2.2.2.1 - 1) (G2.2.2.2.2 - 1)).2.1 a = G2.2.1 a := fun a ha => newG_o (by omega)
  have hT : TG (L / 4) 0 (fun _ => (rB0, W2 294)) (rB0, W2 294) (fun i => i) (fun k => Ad k + 6) (fun k => Ad k + 7) (fun _ => 32) (newG G2 21 1 (G2.2.2.2.1 - 1) (G2.2.2.2.2 - 1)) (z2 M2 297 0) (z2 Q2 297 0) := tg_0 I1 (by show 298 ≤ G2.2.2.1 + 1; omega) (by show 310000 + L / 4 ≤ G2.2.2.2.1 - 1; omega) (by show 1320000 + 6 * (L / 4) ≤ G2.2.2.2.2 - 1; omega) e2 e3 fr
  have hM : MG (newG G2 21 1 (G2.2.2.2.1 - 1) (G2.2.2.2.2 - 1)) (z2 Q2 297 0) := by
    unfold MG
    rw [(hx 292 (by omega)).1, (hx 293 (by omega)).1, (hx 293 (by omega)).2, (hx 294 (by omega)).1, (hx 294 (by omega)).2, (hx 295 (by omega)).1, (hx 295 (by omega)).2, (hx 296 (by omega)).1, (hx 296 (by omega)).2, z2_o (by decide)]
    exact f2
  have hS : MS 0 (fun _ => (rB0, W2 294)) (rB0, W2 294) (z2 M2 297 0) (z2 W2 297 0) := by
    refine ⟨?_, ?_, ⟨?_, by decide⟩, fun i hi => absurd hi (by omega)⟩
    · rw [z2_o (by decide)]; exact f3
    · rw [z2_o (by decide)]
    · rw [z2_o (by decide), f4, z2_f]; rfl
  have k1 := fr 1 (by decide) (by decide)
  have kk : (newG G2 21 1 (G2.2.2.2.1 - 1) (G2.2.2.2.2 - 1)).1 297 = 21 := by rw [← f5]; exact newG_k
  have kl : (newG G2 21 1 (G2.2.2.2.1 - 1) (G2.2.2.2.2 - 1)).2.1 297 = 1 := by rw [← f5]; exact newG_l
  have hLS : LLs L xs (L / 4) 0 (fun _ => (rB0, W2 294)) (rB0, W2 294) (newG G2 21 1 (G2.2.2.2.1 - 1) (G2.2.2.2.2 - 1)) (z2 M2 297 0) (z2 W2 297 0) (z2 Q2 297 0) := ⟨⟨_, _, _, _, hT⟩, ⟨hM, hS⟩, ⟨k1.1.trans b4, k1.2.1.trans b5, fun j => by rw [k1.2.2.1]; exact b6 j⟩, kk, kl⟩
  obtain ⟨h', r1⟩ := l_loop hL (L / 4) 0 0 _ _ .null .null _ _ _ _ (by omega) hLS ⟨⟨0, 0, 2, Nat.zero_le _, ji_0⟩, fun i hi => absurd hi (by omega)⟩ (by decide)
  refine ⟨h', ?_⟩
  rw [wL_law_0 (by omega) (by omega), hn, wL_law_3, wL_law_4 a2 (Nat.le_of_ble_eq_true rfl), e1, aR_v (E := ()), wL_law_7r]
  rw [wL_law_8 (by omega) (by omega), b1, wL_law_11, wL_law_12 c1 (Nat.le_of_ble_eq_true rfl), f1, aR_v (E := ()), wL_law_15r, wL_law_16]
  rw [wL_law_17 (by decide) (by omega) (by omega), f5, wL_law_19r, wL_law_20, wL_law_21r]
  exact r1
end LRUN
