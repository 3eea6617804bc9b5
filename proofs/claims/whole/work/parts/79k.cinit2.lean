/-! the class: its constructors, run -/
section CIN2
variable {s k d i j f a o v x kd n pa pf : Nat} {y z : Int32} {g : Gh} {mi : MI} {ml : ML} {mr : MR}
theorem c_i0 (hx : g.1 x = 1) : callT (d + 2) mX0_init [.ref x] (g, mi, ml, mr) = some (.inl none, g, mi, ml, mr) := by
  have h1 : g.1 x ≠ 0 := by rw [hx]; decide
  have h2 : g.1 x < 30 := by rw [hx]; decide
  rw [eX0_init]
  simp only [wX0_init_0, wX0_init_1, wX0_init_4, h1, h2, cs_0, ne_eq, not_false_iff]
theorem c_i1 (hx : g.1 x = 2) : callT (d + 2) mX1_init [.ref x, .int y, .int z] (g, mi, ml, mr) = some (.inl none, g, u2 (u2 (u2 mi x 0 y) x 1 z) x 3 (-1), ml, mr) := by
  have h1 : g.1 x ≠ 0 := by rw [hx]; decide
  have h2 : g.1 x < 30 := by rw [hx]; decide
  rw [eX1_init]
  rw [wX1_init_0, wX1_init_1 h1 h2 (by decide)]
  simp only [wX1_init_0, wX1_init_1, wX1_init_4, wX1_init_5, wX1_init_6, wX1_init_9, wX1_init_10, wX1_init_11, wX1_init_14, wX1_init_15, wX1_init_16, wX1_init_19, hx, cs_0]
theorem gS_c (h : 72 ≤ g.2.2.2.1) (hk : k < 72) : 1 ≤ (gS s k g).2.2.2.1 := by
  show 1 ≤ g.2.2.2.1 - k
  omega
theorem us_le : usS k + n ≤ 663 → 663 ≤ g.2.2.2.2 → n ≤ (gS s k g).2.2.2.2 := fun h h2 => by
  show n ≤ g.2.2.2.2 - usS k
  omega
theorem iM_lnk : u2 (z2 (iM s 4 mi) (s + 4) 0) (s + 4) 1 (nI 2) = iM s 5 mi := funext fun a => funext fun f => by
  rw [u2_ev, z2_ev]
  by_cases h1 : a = s + 4
  · subst h1
    rw [iM_at (k := 5) (by decide), if_pos rfl]
    by_cases h2 : f = 1
    · subst h2; rw [if_pos ⟨rfl, rfl⟩]; rfl
    · rw [if_neg (fun h => h2 h.2)]
      unfold iV
      rw [if_neg (by omega), if_neg (by omega), if_neg (by omega), if_neg (by omega), if_neg (by omega)]
  · rw [if_neg (fun h => h1 h.1), if_neg h1]
    by_cases h4 : s ≤ a ∧ a < s + 4
    · rw [iM_1 (k := 4) h4.1 h4.2]
    · rw [iM_2 (k := 4) (by omega)]
theorem iM_top : u2 (z2 mi s 0) s 0 (nI 4) = iM s 1 mi := funext fun a => funext fun f => by
  rw [u2_ev, z2_ev]
  by_cases h1 : a = s
  · subst h1
    have e := iM_at (s := a) (i := 0) (k := 1) (f := f) (mi := mi) (by decide)
    rw [Nat.add_zero] at e
    rw [e, if_pos rfl]
    by_cases h2 : f = 0
    · subst h2; rw [if_pos ⟨rfl, rfl⟩]; rfl
    · rw [if_neg (fun h => h2 h.2)]
      unfold iV
      rw [if_neg (by omega), if_neg (by omega), if_neg (by omega), if_neg (by omega), if_neg (by omega)]
  · rw [if_neg (fun h => h1 h.1), if_neg h1, iM_o (by omega)]
theorem iM_end (hk : k < 24) : u2 (u2 (u2 (z2 (iM s (8 + k) mi) (s + (8 + k)) 0) (s + (8 + k)) 0 (nI (k / 12))) (s + (8 + k)) 1 (nI (k % 12))) (s + (8 + k)) 3 (-1) = iM s (8 + (k + 1)) mi := funext fun a => funext fun f => by
  rw [u2_ev, u2_ev, u2_ev, z2_ev]
  by_cases h1 : a = s + (8 + k)
  · subst h1
    rw [iM_at (k := 8 + (k + 1)) (by omega), if_pos rfl]
    unfold iV
    rw [show 8 + k - 8 = k by omega]
    by_cases h3 : f = 3
    · subst h3
      rw [if_pos ⟨rfl, rfl⟩, if_neg (by omega), if_neg (by omega), if_neg (by omega), if_neg (by omega), if_pos (by omega)]
    · rw [if_neg (fun h => h3 h.2)]
      by_cases h4 : f = 1
      · subst h4
        rw [if_pos ⟨rfl, rfl⟩, if_neg (by omega), if_neg (by omega), if_neg (by omega), if_pos (by omega)]
      · rw [if_neg (fun h => h4 h.2)]
        by_cases h5 : f = 0
        · subst h5
          rw [if_pos ⟨rfl, rfl⟩, if_neg (by omega), if_neg (by omega), if_pos (by omega)]
        · rw [if_neg (fun h => h5 h.2), if_neg (by omega), if_neg (by omega), if_neg (by omega), if_neg (by omega), if_neg (by omega)]
  · rw [if_neg (fun h => h1 h.1), if_neg (fun h => h1 h.1), if_neg (fun h => h1 h.1), if_neg h1, show 8 + (k + 1) = 8 + k + 1 by omega]
    by_cases h4 : s ≤ a ∧ a < s + (8 + k)
    · rw [iM_1 (k := 8 + k) h4.1 h4.2]
    · rw [iM_2 (k := 8 + k) (by omega)]
theorem iV_z (h : 1 ≤ k) (h4 : ¬ k = 4) (h8 : k < 8 ∨ 32 ≤ k) : ∀ f, iV k f = 0 := fun f => by
  unfold iV
  rw [if_neg (by omega), if_neg (by omega), if_neg (by omega), if_neg (by omega), if_neg (by omega)]
theorem c_i2 (h1 : 72 ≤ g.2.2.2.1) (h2 : 663 ≤ g.2.2.2.2) : callT (d + 2) mX2_init [.ref (s + 4)] (gS s 5 g, z2 (iM s 4 mi) (s + 4) 0, lM s 5 ml, rM s 5 4 mr) = some (.inl none, gS s 8 g, iM s 8 mi, lM s 8 ml, rM s 8 4 mr) := by
  have k5 : (gS s 5 g).1 (s + 4) = 3 := gS_k (by decide)
  have k6 : (gS s 6 g).1 (s + 4) = 3 := gS_k (by decide)
  have k7 : (gS s 7 g).1 (s + 4) = 3 := gS_k (by decide)
  have k8 : (gS s 8 g).1 (s + 4) = 3 := gS_k (by decide)
  have a5 := gS_c (s := s) (k := 5) h1 (by decide)
  have a6 := gS_c (s := s) (k := 6) h1 (by decide)
  have a7 := gS_c (s := s) (k := 7) h1 (by decide)
  have b5 := us_le (s := s) (k := 5) (n := 2) (by decide) h2
  have b6 := us_le (s := s) (k := 6) (n := 32) (by decide) h2
  have b7 := us_le (s := s) (k := 7) (n := 32) (by decide) h2
  have g5 := gS_new (s := s) (k := 5) (kd := 20) (n := 2) (z := 2) (g := g) rfl rfl rfl
  have g6 := gS_new (s := s) (k := 6) (kd := 20) (n := 32) (z := 32) (g := g) rfl rfl rfl
  have g7 := gS_new (s := s) (k := 7) (kd := 20) (n := 32) (z := 32) (g := g) rfl rfl rfl
  have i5 := iM_new (s := s) (k := 5) (mi := mi) (iV_z (by decide) (by decide) (by decide))
  have i6 := iM_new (s := s) (k := 6) (mi := mi) (iV_z (by decide) (by decide) (by decide))
  have i7 := iM_new (s := s) (k := 7) (mi := mi) (iV_z (by decide) (by decide) (by decide))
  have l5 := lM_new (s := s) (k := 5) (ml := ml)
  have l6 := lM_new (s := s) (k := 6) (ml := ml)
  have l7 := lM_new (s := s) (k := 7) (ml := ml)
  have r5 := rM_new (s := s) (k := 5) (o := 4) (pa := 4) (pf := 4) (mr := mr) rfl (by decide) (by decide)
  have r6 := rM_new (s := s) (k := 6) (o := 4) (pa := 4) (pf := 6) (mr := mr) rfl (by decide) (by decide)
  have r7 := rM_new (s := s) (k := 7) (o := 4) (pa := 4) (pf := 7) (mr := mr) rfl (by decide) (by decide)
  have n5 : s + 5 ≠ 0 := by omega
  have n6 : s + 6 ≠ 0 := by omega
  have n7 : s + 7 ≠ 0 := by omega
  rw [eX2_init, wX2_init_0, wX2_init_1 (by rw [k5]; decide) (by rw [k5]; decide) (by decide)]
  rw [wX2_init_4, wX2_init_5, wX2_init_6 k5, iM_lnk, wX2_init_9, wX2_init_10, wX2_init_11 (by decide) a5 b5, g5, gS_n, i5, l5, wX2_init_13 k6 n5, r5]
  rw [wX2_init_16, wX2_init_17, wX2_init_19 (by decide) a6 b6, g6, gS_n, i6, l6, wX2_init_21 k7 n6, r6]
  rw [wX2_init_24, wX2_init_25, wX2_init_27 (by decide) a7 b7, g7, gS_n, i7, l7, wX2_init_29 k8 n7, r7]
  rw [wX2_init_32]
theorem lp_e (h1 : 72 ≤ g.2.2.2.1) (h2 : 663 ≤ g.2.2.2.2) : ∀ j k, k + j = 24 → R (d + 2) mX3_init 48 [.ref s, .int (nI k)] [] (gS s (8 + k) g) (iM s (8 + k) mi) (lM s (8 + k) ml) (rM s (8 + k) 0 mr) = R (d + 2) mX3_init 84 [.ref s, .int (nI 24)] [] (gS s 32 g) (iM s 32 mi) (lM s 32 ml) (rM s 32 0 mr) := by
  intro j
  induction j with
  | zero =>
    intro k hk
    have : k = 24 := by omega
    subst this
    have k0 : (gS s 32 g).1 s = 4 := gS_k (s := s) (i := 0) (k := 32) (by decide)
    have k2 : (gS s 32 g).1 (s + 2) = 23 := gS_k (by decide)
    have l2 : (gS s 32 g).2.1 (s + 2) = 24 := gS_l (by decide)
    have m2 : rM s 32 0 mr s 2 = s + 2 := rM_at (s := s) (k := 32) (o := 0) (pa := 0) (pf := 2) (v := 2) (by decide) rfl (by decide) (by decide) (by decide)
    have q2 : 20 ≤ (gS s 32 g).1 (s + 2) ∧ (gS s 32 g).1 (s + 2) ≤ 25 := by rw [k2]; decide
    rw [wX3_init_48, wX3_init_49, wX3_init_50 k0, m2, wX3_init_53 q2, l2, wX3_init_54, if_pos (by decide)]
  | succ j ih =>
    intro k hk
    have hk24 : k < 24 := by omega
    have k0 : (gS s (8 + k) g).1 s = 4 := gS_k (s := s) (i := 0) (k := 8 + k) (by omega)
    have k2 : (gS s (8 + k) g).1 (s + 2) = 23 := gS_k (by omega)
    have l2 : (gS s (8 + k) g).2.1 (s + 2) = 24 := gS_l (by omega)
    have k2' : (gS s (8 + k + 1) g).1 (s + 2) = 23 := gS_k (by omega)
    have l2' : (gS s (8 + k + 1) g).2.1 (s + 2) = 24 := gS_l (by omega)
    have m2 : rM s (8 + k) 0 mr s 2 = s + 2 := rM_at (s := s) (k := 8 + k) (o := 0) (pa := 0) (pf := 2) (v := 2) (by omega) rfl (by decide) (by omega) (by decide)
    have q2 : 20 ≤ (gS s (8 + k) g).1 (s + 2) ∧ (gS s (8 + k) g).1 (s + 2) ≤ 25 := by rw [k2]; decide
    have d1 : ¬ nI 24 ≤ nI k := nI_ge (by omega) (by omega)
    have us : usS (8 + k + 1) = usS (8 + k) + 11 := by
      unfold usS
      rw [if_neg (by omega), if_neg (by omega), if_neg (by omega), if_neg (by omega), if_neg (by omega), if_neg (by omega), if_neg (by omega), if_neg (by omega), if_pos (by omega), if_neg (by omega), if_neg (by omega), if_neg (by omega), if_neg (by omega), if_neg (by omega), if_neg (by omega), if_neg (by omega), if_neg (by omega), if_pos (by omega)]
      omega
    have ub : usS (8 + k) + 11 ≤ 663 := by
      unfold usS
      rw [if_neg (by omega), if_neg (by omega), if_neg (by omega), if_neg (by omega), if_neg (by omega), if_neg (by omega), if_neg (by omega), if_neg (by omega), if_pos (by omega)]
      omega
    have kk : kdS (8 + k) = 2 := by
      unfold kdS
      rw [if_neg (by omega), if_neg (by omega), if_neg (by omega), if_neg (by omega), if_neg (by omega), if_neg (by omega), if_pos (by omega)]
    have kl : lnS (8 + k) = 0 := by
      unfold lnS
      rw [if_neg (by omega), if_neg (by omega), if_neg (by omega), if_neg (by omega), if_neg (by omega)]
    have gn := gS_new (s := s) (k := 8 + k) (kd := 2) (n := 0) (z := 11) (g := g) kk kl us
    have kn : (gS s (8 + k + 1) g).1 (s + (8 + k)) = 2 := (gS_k (by omega)).trans kk
    have dv : ∀ k, k < 24 → nI k / nI 12 = nI (k / 12) ∧ nI k - nI k / nI 12 * nI 12 = nI (k % 12) := by decide +kernel
    have ch : zCh 2 k = 8 + k := by
      unfold zCh
      rw [if_neg (by decide), if_neg (by decide), if_pos rfl, if_pos hk24]
    have rn := rM_new (s := s) (k := 8 + k) (o := 0) (pa := 2) (pf := k) (mr := mr) ch (by omega) (by omega)
    have e := ih (k + 1) (by omega)
    rw [wX3_init_48, wX3_init_49, wX3_init_50 k0, m2, wX3_init_53 q2, l2, wX3_init_54, if_neg d1]
    rw [wX3_init_57, wX3_init_58 k0, m2, wX3_init_61, wX3_init_62 (gS_c h1 (by omega)) (us_le ub h2), gn, gS_n, lM_new]
    rw [wX3_init_65, wX3_init_66, wX3_init_67, wX3_init_69 (by decide), (dv k hk24).1, wX3_init_70, wX3_init_71, wX3_init_73 (by decide), (dv k hk24).2]
    rw [wX3_init_74 kn (Nat.le_of_ble_eq_true rfl), c_i1 kn, aR_v (E := ()), iM_end hk24, wX3_init_77 (Or.inl k2') (by rw [l2']; exact hk24) (by omega) (by rw [kn, k2']; rfl), rn]
    rw [wX3_init_78r, wX3_init_81, nI_add]
    exact e
theorem lp_c (h1 : 72 ≤ g.2.2.2.1) (h2 : 663 ≤ g.2.2.2.2) : ∀ j k, k + j = 40 → R (d + 2) mX3_init 86 [.ref s, .int (nI k)] [] (gS s (32 + k) g) (iM s (32 + k) mi) (lM s (32 + k) ml) (rM s (32 + k) 0 mr) = some (.inl none, gS s 72 g, iM s 72 mi, lM s 72 ml, rM s 72 0 mr) := by
  intro j
  induction j with
  | zero =>
    intro k hk
    have : k = 40 := by omega
    subst this
    rw [wX3_init_86, wX3_init_87, wX3_init_89, if_pos (by decide), wX3_init_111]
  | succ j ih =>
    intro k hk
    have hk40 : k < 40 := by omega
    have k0 : (gS s (32 + k) g).1 s = 4 := gS_k (s := s) (i := 0) (k := 32 + k) (by omega)
    have k3' : (gS s (32 + k + 1) g).1 (s + 3) = 24 := gS_k (by omega)
    have l3' : (gS s (32 + k + 1) g).2.1 (s + 3) = 40 := gS_l (by omega)
    have m3 : rM s (32 + k) 0 mr s 4 = s + 3 := rM_at (s := s) (k := 32 + k) (o := 0) (pa := 0) (pf := 4) (v := 3) (by omega) rfl (by decide) (by omega) (by decide)
    have d1 : ¬ nI 40 ≤ nI k := nI_ge (by omega) (by omega)
    have us : usS (32 + k + 1) = usS (32 + k) + 6 := by
      unfold usS
      rw [if_neg (by omega), if_neg (by omega), if_neg (by omega), if_neg (by omega), if_neg (by omega), if_neg (by omega), if_neg (by omega), if_neg (by omega), if_neg (by omega), if_neg (by omega), if_neg (by omega), if_neg (by omega), if_neg (by omega), if_neg (by omega), if_neg (by omega), if_neg (by omega), if_neg (by omega)]
      by_cases h9 : k = 0
      · subst h9; rfl
      · rw [if_neg (by omega)]; omega
    have ub : usS (32 + k) + 6 ≤ 663 := by
      unfold usS
      rw [if_neg (by omega), if_neg (by omega), if_neg (by omega), if_neg (by omega), if_neg (by omega), if_neg (by omega), if_neg (by omega), if_neg (by omega)]
      by_cases h9 : k = 0
      · subst h9; decide
      · rw [if_neg (by omega)]; omega
    have kk : kdS (32 + k) = 1 := by
      unfold kdS
      rw [if_neg (by omega), if_neg (by omega), if_neg (by omega), if_neg (by omega), if_neg (by omega), if_neg (by omega), if_neg (by omega)]
    have kl : lnS (32 + k) = 0 := by
      unfold lnS
      rw [if_neg (by omega), if_neg (by omega), if_neg (by omega), if_neg (by omega), if_neg (by omega)]
    have gn := gS_new (s := s) (k := 32 + k) (kd := 1) (n := 0) (z := 6) (g := g) kk kl us
    have kn : (gS s (32 + k + 1) g).1 (s + (32 + k)) = 1 := (gS_k (by omega)).trans kk
    have ch : zCh 3 k = 32 + k := by
      unfold zCh
      rw [if_neg (by decide), if_neg (by decide), if_neg (by decide), if_pos rfl, if_pos hk40]
    have rn := rM_new (s := s) (k := 32 + k) (o := 0) (pa := 3) (pf := k) (mr := mr) ch (by omega) (by omega)
    have e := ih (k + 1) (by omega)
    rw [wX3_init_86, wX3_init_87, wX3_init_89, if_neg d1]
    rw [wX3_init_92, wX3_init_93 k0, m3, wX3_init_96, wX3_init_97 (gS_c h1 (by omega)) (us_le ub h2), gn, gS_n, lM_new, iM_new (iV_z (by omega) (by omega) (by omega))]
    rw [wX3_init_100, wX3_init_101 kn (Nat.le_of_ble_eq_true rfl), c_i0 kn, aR_v (E := ()), wX3_init_104 (Or.inr (Or.inl k3')) (by rw [l3']; exact hk40) (by omega) (by rw [kn, k3']; rfl), rn]
    rw [wX3_init_105r, wX3_init_108, nI_add]
    exact e
/-- a state is made -/
theorem c_i3 (hs : 1 ≤ s) (h1 : 72 ≤ g.2.2.2.1) (h2 : 663 ≤ g.2.2.2.2) : callT (d + 3) mX3_init [.ref s] (gS s 1 g, z2 mi s 0, lM s 1 ml, rM s 1 0 mr) = some (.inl none, gS s 72 g, iM s 72 mi, lM s 72 ml, rM s 72 0 mr) := by
  have k0 : ∀ k, 0 < k → (gS s k g).1 s = 4 := fun k hk => gS_k (s := s) (i := 0) (k := k) hk
  have k4 : (gS s 5 g).1 (s + 4) = 3 := gS_k (by decide)
  have g1 := gS_new (s := s) (k := 1) (kd := 22) (n := 12) (z := 12) (g := g) rfl rfl rfl
  have g2 := gS_new (s := s) (k := 2) (kd := 23) (n := 24) (z := 24) (g := g) rfl rfl rfl
  have g3 := gS_new (s := s) (k := 3) (kd := 24) (n := 40) (z := 40) (g := g) rfl rfl rfl
  have g4 := gS_new (s := s) (k := 4) (kd := 3) (n := 0) (z := 8) (g := g) rfl rfl rfl
  have i1 := iM_new (s := s) (k := 1) (mi := mi) (iV_z (by decide) (by decide) (by decide))
  have i2 := iM_new (s := s) (k := 2) (mi := mi) (iV_z (by decide) (by decide) (by decide))
  have i3 := iM_new (s := s) (k := 3) (mi := mi) (iV_z (by decide) (by decide) (by decide))
  have r1 : u2 (z2 (rM s 1 0 mr) (s + 1) 0) s 1 (s + 1) = rM s 2 0 mr := rM_new (s := s) (k := 1) (o := 0) (pa := 0) (pf := 1) (mr := mr) rfl (by decide) (by decide)
  have r2_ : u2 (z2 (rM s 2 0 mr) (s + 2) 0) s 2 (s + 2) = rM s 3 0 mr := rM_new (s := s) (k := 2) (o := 0) (pa := 0) (pf := 2) (mr := mr) rfl (by decide) (by decide)
  have r3 : u2 (z2 (rM s 3 0 mr) (s + 3) 0) s 4 (s + 3) = rM s 4 0 mr := rM_new (s := s) (k := 3) (o := 0) (pa := 0) (pf := 4) (mr := mr) rfl (by decide) (by decide)
  have r4 : z2 (rM s 4 0 mr) (s + 4) 0 = rM s 5 4 mr := by rw [← rM_ho (s := s) (k := 4) (o := 4) (by decide)]; exact rM_hole
  have r8 : u2 (rM s 8 4 mr) s 5 (s + 4) = rM s 8 0 mr := rM_fill (s := s) (k := 8) (o := 4) (pa := 0) (pf := 5) (mr := mr) rfl (by decide) (by decide) (by decide)
  have n0 : ∀ i, s + i ≠ 0 := fun i => by omega
  have e1 := lp_e (s := s) (d := d) (mi := mi) (ml := ml) (mr := mr) h1 h2 24 0 (by decide)
  have e2 := lp_c (s := s) (d := d) (mi := mi) (ml := ml) (mr := mr) h1 h2 40 0 (by decide)
  rw [eX3_init, wX3_init_0, wX3_init_1 (by rw [k0 1 (by decide)]; decide) (by rw [k0 1 (by decide)]; decide) (by decide)]
  rw [wX3_init_4, wX3_init_5, wX3_init_6 (k0 1 (by decide)), iM_top, wX3_init_9, wX3_init_10, wX3_init_12 (by decide) (gS_c h1 (by decide)) (us_le (by decide) h2), g1, gS_n, i1, lM_new, wX3_init_14 (k0 2 (by decide)) (n0 1), r1]
  rw [wX3_init_17, wX3_init_18, wX3_init_20 (by decide) (gS_c h1 (by decide)) (us_le (by decide) h2), g2, gS_n, i2, lM_new, wX3_init_23 (k0 3 (by decide)) (n0 2), r2_]
  rw [wX3_init_26, wX3_init_27, wX3_init_29 (by decide) (gS_c h1 (by decide)) (us_le (by decide) h2), g3, gS_n, i3, lM_new, wX3_init_32 (k0 4 (by decide)) (n0 3), r3]
  rw [wX3_init_35, wX3_init_36 (gS_c h1 (by decide)) (us_le (by decide) h2), g4, gS_n, lM_new, r4, wX3_init_39, wX3_init_40 k4 (Nat.le_of_ble_eq_true rfl), c_i2 h1 h2, aR_v (E := ()), wX3_init_43 (k0 8 (by decide)) (n0 4), r8]
  rw [wX3_init_46, wX3_init_47r]
  rw [e1, wX3_init_84, wX3_init_85r]
  exact e2
end CIN2
