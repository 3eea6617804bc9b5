/-! the reference: a tick runs -/
section TK2
variable {X : Nat → Nat → Nat} {β β' T T' h hb : Nat → Nat} {A : Nat × Nat} {N t D e c w k v n j x s a p B J d : Nat} {r r' r1 : Nat → Int32} {q q' : Nat → Int64} {z z1 : Int32} {G : Nat → GM} {tg : Tg} {m : Ms} {M : Int64} {gh : Gh} {mi : MI} {ml : ML} {mr : MR}
theorem popQ_at {α : Type} {q : Nat → α} : popQ q k (k + 1) = q (k + 1) := by unfold popQ; rw [if_neg (by omega)]
theorem popQ_0 {α : Type} {q : Nat → α} : popQ q 0 = q := by funext i; unfold popQ; rw [if_neg (by omega)]
theorem popQ_step {α : Type} {q : Nat → α} : u1 (popQ q k) k (q (k + 1)) = popQ q (k + 1) := by
  funext i
  unfold u1 popQ
  by_cases hi : i = k
  · subst hi; rw [if_pos rfl, if_pos (by omega)]
  · rw [if_neg hi]
    by_cases h2 : i < k
    · rw [if_pos h2, if_pos (by omega)]
    · rw [if_neg h2, if_neg (by omega)]
/-- a message that is due is taken and received -/
theorem JG.due1 (hJ : JG X (std B) T (t, J + 1) h hb N t D r q) (hX : ∀ e c, X e c ≤ 1) (hT : ∀ y, T y < t) (hB : B ≤ 12012) : ∃ m : Ms, q 0 = enc m ∧ okM m ∧ m.1 = t ∧ (∃ β', JG X β' T (t, J) h hb N t D (dec r 11) (popQ q (nM (dec r 11)))) ∧ Rm (dec r 11) 2 ∧ JG X (std B) T (t, J) h hb N t D (pRv1 r q (q 0)).1 (pRv1 r q (q 0)).2 := by
  obtain ⟨g, b1, b2, b3, b4, b5, b6⟩ := hJ.pop (show 1 ≤ J + 1 by omega)
  have b7 : JG X (u1 (std B) (slot g.2) (std B (slot g.2) - wgt X g)) T (t, J) h hb N t D (dec r 11) (popQ q (nM (dec r 11))) := JG.qc b6 (fun n h1 h2 i hi => by
    unfold popQ nM
    rw [h1, clampN (by omega), if_pos hi])
  have hR : Rm (dec r 11) 2 := ((b7.mono (β' := std B) (fun i => by
    by_cases h9 : i = slot g.2
    · subst h9; rw [u1_s]; omega
    · rw [u1_n h9]; exact Nat.le_refl _)).cap (std_cap hB)).mono rfl (by decide)
  have hg : okG N (dec r 11) g := by
    obtain ⟨c1, c2, c3, c4, c5, c6, c7⟩ := b2
    refine ⟨c1, c2, c3, c4, c5, c6, fun h9 => ?_⟩
    have : dec r 11 (cI g.1.2.2.2.2.2 0) = r (cI g.1.2.2.2.2.2 0) := u1_n (by have := cI_ge (n := g.1.2.2.2.2.2) (w := 0); omega)
    rw [this]; exact c7 h9
  have hlt : ∀ x, x < 24 → h x < t ∧ hb x < t := fun x hx => by
    obtain ⟨s, o, tm, ag, lb, rm, wt, vl, bt, -, hn, -, -⟩ := hJ.ej (show x / 12 < 2 by omega) (show x % 12 < 12 by omega)
    have e1 : 12 * (x / 12) + x % 12 = x := by omega
    rw [e1] at hn
    have t1 := hT x
    have t2 := hT (24 + x)
    exact ⟨Nat.lt_of_le_of_lt hn.2.2.2.2.2.2.2.2.1 t1, Nat.lt_of_le_of_lt hn.2.2.2.2.2.2.2.2.2.1 t2⟩
  have h8 := JG.rv b7 hg (hX _ _) b4 b3 hlt (Nat.le_refl t) hR
  refine ⟨g.1, b1, b2.ms, b3, ⟨_, b7⟩, hR, ?_⟩
  rw [b1, pRv1_enc b2.ms]
  refine h8.mono (fun i => ?_)
  unfold ad
  by_cases h9 : i = slot g.2
  · subst h9; rw [u1_s, u1_s]; omega
  · rw [u1_n h9, u1_n h9]; exact Nat.le_refl _
theorem JG.dues (hX : ∀ e c, X e c ≤ 1) (hT : ∀ y, T y < t) (hB : B ≤ 12012) : ∀ J r q, JG X (std B) T (t, J) h hb N t D r q → JG X (std B) T (t, 0) h hb N t D (pDue J (r, q)).1 (pDue J (r, q)).2
  | 0, _, _, hJ => hJ
  | J + 1, r, q, hJ => by
    obtain ⟨m, -, -, -, -, -, h1⟩ := JG.due1 hJ hX hT hB
    exact JG.dues hX hT hB J _ _ h1
/-- the clocks, while the timers go on -/
def Tt (t k : Nat) : Nat → Nat := fun y => if y % 24 < k then t else t - 1
theorem Tt_mono (h : j ≤ k) : ∀ y, Tt t j y ≤ Tt t k y := fun y => by
  unfold Tt
  by_cases h1 : y % 24 < j
  · rw [if_pos h1, if_pos (by omega)]; exact Nat.le_refl t
  · rw [if_neg h1]; split <;> omega
theorem JG.tmT (hJ : JG X (std B) (Tt t (12 * e + c)) (t, 0) h hb N t D r q) (hB : B ≤ 12012) (he : e < 2) (hc : c < 12) (h1 : 1 ≤ t) : Rm (pTm1 r q e c).1 1 ∧ ∃ h' hb', JG X (std B) (Tt t (12 * e + (c + 1))) (t, 0) h' hb' N t D (pTm r q e c).1 (pTm r q e c).2 := by
  have hT : ∀ y, y % 24 = 12 * e + c → Tt t (12 * e + c) y + 1 = t := fun y hy => by unfold Tt; rw [if_neg (by omega)]; omega
  obtain ⟨a1, h', hb', a2⟩ := hJ.tm hB he hc rfl (hT _ (by omega)) (hT _ (by omega))
  refine ⟨a1, h', hb', a2.bump (fun y => ?_)⟩
  by_cases g1 : y = 24 + (12 * e + c)
  · subst g1; rw [u1_s]; unfold Tt; rw [if_pos (by omega)]; exact Nat.le_refl t
  · rw [u1_n g1]
    by_cases g2 : y = 12 * e + c
    · subst g2; rw [u1_s]; unfold Tt; rw [if_pos (by omega)]; exact Nat.le_refl t
    · rw [u1_n g2]; exact Tt_mono (by omega) y
theorem JG.tms (hB : B ≤ 12012) (he : e < 2) (h1 : 1 ≤ t) : ∀ j c r q h hb, c + j = 12 → JG X (std B) (Tt t (12 * e + c)) (t, 0) h hb N t D r q → ∃ h' hb', JG X (std B) (Tt t (12 * e + 12)) (t, 0) h' hb' N t D (pTms e j c (r, q)).1 (pTms e j c (r, q)).2
  | 0, c, r, q, h, hb, hc, hJ => ⟨h, hb, by
    have : c = 12 := by omega
    subst this; exact hJ⟩
  | j + 1, c, r, q, h, hb, hc, hJ => by
    show ∃ h' hb', JG X (std B) (Tt t (12 * e + 12)) (t, 0) h' hb' N t D (if nI c < r 0 then pTms e j (c + 1) (pTm r q e c) else (r, q)).1 (if nI c < r 0 then pTms e j (c + 1) (pTm r q e c) else (r, q)).2
    by_cases g1 : nI c < r 0
    · rw [if_pos g1]
      obtain ⟨-, h', hb', a2⟩ := hJ.tmT hB he (by omega) h1
      exact JG.tms hB he h1 j (c + 1) _ _ h' hb' (by omega) a2
    · rw [if_neg g1]
      exact ⟨h, hb, hJ.bump (Tt_mono (by omega))⟩
/-- what holds between calls -/
def JI (X : Nat → Nat → Nat) (B N t D : Nat) (r : Nat → Int32) (q : Nat → Int64) : Prop := ∃ h hb, JG X (std B) (fun _ => t) (t, 0) h hb N t D r q
theorem JG.tkA (hJ : JG X (std B) (fun _ => t) (t, 0) h hb N t D r q) (ht : t < 300000) : JG X (std B) (Tt (t + 1) 0) (t + 1, pJ r q) h hb N (t + 1) D (inc r 2) q := by
  refine hJ.next ht |>.bump (fun y => ?_)
  unfold Tt
  rw [if_neg (by omega)]
  exact Nat.le_refl _
theorem Tt_0 : ∀ y, Tt (t + 1) 0 y < t + 1 := fun y => by unfold Tt; rw [if_neg (by omega)]; omega
theorem JI.tk (hJ : JI X B N t D r q) (hX : ∀ e c, X e c ≤ 1) (hB : B ≤ 12012) (ht : t < 300000) : JI X B N (t + 1) D (pTk (r, q)).1 (pTk (r, q)).2 := by
  obtain ⟨h, hb, hJ⟩ := hJ
  have h1 := JG.dues hX Tt_0 hB _ _ _ (hJ.tkA ht)
  obtain ⟨h', hb', h2⟩ := JG.tms hB (e := 0) (by decide) (by omega) 12 0 _ _ h hb rfl h1
  obtain ⟨h'', hb'', h3⟩ := JG.tms hB (e := 1) (by decide) (by omega) 12 0 _ _ h' hb' rfl h2
  refine ⟨h'', hb'', h3.bump (fun y => ?_)⟩
  unfold Tt
  rw [if_pos (by omega)]
  exact Nat.le_refl _
/-- one message is taken away -/
theorem m_tkP (hg : MG gh mr) (hn : r 11 = nI n) (hn2 : n < 12500) : ∀ j k, k + j = n → R d mX5_ticks 63 [.ref 292, .int z, .long M, .null, .int (nI k)] [] gh (r2 mi 293 r) (r2 ml 294 (popQ q k)) mr = R d mX5_ticks 97 [.ref 292, .int z, .long M, .null, .int (nI n)] [] gh (r2 mi 293 r) (r2 ml 294 (popQ q n)) mr := by
  obtain ⟨h1, h2, h3, h5, h6, -, -, -, -, h4, h7, -⟩ := hg
  intro j
  induction j with
  | zero =>
    intro k hk
    have : k = n := by omega
    subst this
    rw [wX5_ticks_63]
    simp only [wX5_ticks_0, wX5_ticks_1, wX5_ticks_4, wX5_ticks_5, wX5_ticks_6, wX5_ticks_7, wX5_ticks_8, wX5_ticks_9, wX5_ticks_10, wX5_ticks_11i, wX5_ticks_11r, wX5_ticks_11n, wX5_ticks_13, wX5_ticks_16, wX5_ticks_18, wX5_ticks_19, wX5_ticks_22, wX5_ticks_23, wX5_ticks_26, wX5_ticks_27, wX5_ticks_28, wX5_ticks_31, wX5_ticks_32, wX5_ticks_35, wX5_ticks_36, wX5_ticks_37, wX5_ticks_38, wX5_ticks_39, wX5_ticks_42, wX5_ticks_43, wX5_ticks_46, wX5_ticks_47, wX5_ticks_48i, wX5_ticks_48r, wX5_ticks_48n, wX5_ticks_49, wX5_ticks_50, wX5_ticks_53, wX5_ticks_55, wX5_ticks_56, wX5_ticks_57, wX5_ticks_58, wX5_ticks_59, wX5_ticks_60, wX5_ticks_61i, wX5_ticks_61r, wX5_ticks_61n, wX5_ticks_65, wX5_ticks_66, wX5_ticks_69, wX5_ticks_71, wX5_ticks_72, wX5_ticks_75, wX5_ticks_76, wX5_ticks_79, wX5_ticks_81, wX5_ticks_82, wX5_ticks_85, wX5_ticks_87, wX5_ticks_88, wX5_ticks_89, wX5_ticks_90, wX5_ticks_91i, wX5_ticks_91r, wX5_ticks_91n, wX5_ticks_94, wX5_ticks_98, wX5_ticks_99, wX5_ticks_100, wX5_ticks_103, wX5_ticks_104, wX5_ticks_105, wX5_ticks_108, wX5_ticks_109, wX5_ticks_112, wX5_ticks_113, wX5_ticks_116, wX5_ticks_117, wX5_ticks_120, wX5_ticks_121, wX5_ticks_122, wX5_ticks_125i, wX5_ticks_125r, wX5_ticks_125n, wX5_ticks_128, wX5_ticks_131, wX5_ticks_132i, wX5_ticks_132r, wX5_ticks_132n, wX5_ticks_134, wX5_ticks_135, wX5_ticks_138, wX5_ticks_139i, wX5_ticks_139r, wX5_ticks_139n, wX5_ticks_141, wX5_ticks_142, wX5_ticks_145, wX5_ticks_146, wX5_ticks_147, wX5_ticks_150, wX5_ticks_151, wX5_ticks_152, wX5_ticks_153, wX5_ticks_156i, wX5_ticks_156r, wX5_ticks_156n, wX5_ticks_159, wX5_ticks_162i, wX5_ticks_162r, wX5_ticks_162n, wX5_ticks_165, wX5_ticks_168, wX5_ticks_169, h1, h2, h3, h4, r2_s, Nat.reduceLT, hn, Int32.le_refl, if_true]
  | succ j ih =>
    intro k hk
    have c1 : ¬ nI n ≤ nI k := by rw [nI_leI (by omega) (by omega)]; omega
    have b1 : k < 12500 := by omega
    have b2 : k < 2147483648 := by omega
    have b3 : k + 1 < 12500 := by omega
    have b4 : k + 1 < 2147483648 := by omega
    rw [wX5_ticks_63]
    simp only [wX5_ticks_0, wX5_ticks_1, wX5_ticks_4, wX5_ticks_5, wX5_ticks_6, wX5_ticks_7, wX5_ticks_8, wX5_ticks_9, wX5_ticks_10, wX5_ticks_11i, wX5_ticks_11r, wX5_ticks_11n, wX5_ticks_13, wX5_ticks_16, wX5_ticks_18, wX5_ticks_19, wX5_ticks_22, wX5_ticks_23, wX5_ticks_26, wX5_ticks_27, wX5_ticks_28, wX5_ticks_31, wX5_ticks_32, wX5_ticks_35, wX5_ticks_36, wX5_ticks_37, wX5_ticks_38, wX5_ticks_39, wX5_ticks_42, wX5_ticks_43, wX5_ticks_46, wX5_ticks_47, wX5_ticks_48i, wX5_ticks_48r, wX5_ticks_48n, wX5_ticks_49, wX5_ticks_50, wX5_ticks_53, wX5_ticks_55, wX5_ticks_56, wX5_ticks_57, wX5_ticks_58, wX5_ticks_59, wX5_ticks_60, wX5_ticks_61i, wX5_ticks_61r, wX5_ticks_61n, wX5_ticks_65, wX5_ticks_66, wX5_ticks_69, wX5_ticks_71, wX5_ticks_72, wX5_ticks_75, wX5_ticks_76, wX5_ticks_79, wX5_ticks_81, wX5_ticks_82, wX5_ticks_85, wX5_ticks_87, wX5_ticks_88, wX5_ticks_89, wX5_ticks_90, wX5_ticks_91i, wX5_ticks_91r, wX5_ticks_91n, wX5_ticks_94, wX5_ticks_98, wX5_ticks_99, wX5_ticks_100, wX5_ticks_103, wX5_ticks_104, wX5_ticks_105, wX5_ticks_108, wX5_ticks_109, wX5_ticks_112, wX5_ticks_113, wX5_ticks_116, wX5_ticks_117, wX5_ticks_120, wX5_ticks_121, wX5_ticks_122, wX5_ticks_125i, wX5_ticks_125r, wX5_ticks_125n, wX5_ticks_128, wX5_ticks_131, wX5_ticks_132i, wX5_ticks_132r, wX5_ticks_132n, wX5_ticks_134, wX5_ticks_135, wX5_ticks_138, wX5_ticks_139i, wX5_ticks_139r, wX5_ticks_139n, wX5_ticks_141, wX5_ticks_142, wX5_ticks_145, wX5_ticks_146, wX5_ticks_147, wX5_ticks_150, wX5_ticks_151, wX5_ticks_152, wX5_ticks_153, wX5_ticks_156i, wX5_ticks_156r, wX5_ticks_156n, wX5_ticks_159, wX5_ticks_162i, wX5_ticks_162r, wX5_ticks_162n, wX5_ticks_165, wX5_ticks_168, wX5_ticks_169, h1, h2, h3, h4, h5, h6, h7, r2_s, Nat.reduceLT, hn, c1, if_false, nI_add, b1, b2, b3, b4, u2_r2, r2_r2, popQ_at, popQ_step]
    exact ih (k + 1) (by omega)
/-- what is due is received -/
theorem m_tkD (hg : MG gh mr) (hX : ∀ e c, X e c ≤ 1) (hT : ∀ y, T y < t) (hB : B ≤ 12012) {Y : Option Res} : ∀ J r q cnt a2 a3 a4, JG X (std B) T (t, J) h hb N t D r q → (∀ a2 a3 a4, R (d + 8) mX5_ticks 131 [.ref 292, .int (nI (cnt + J)), a2, a3, a4] [] gh (r2 mi 293 (pDue J (r, q)).1) (r2 ml 294 (pDue J (r, q)).2) mr = Y) → R (d + 8) mX5_ticks 12 [.ref 292, .int (nI cnt), a2, a3, a4] [] gh (r2 mi 293 r) (r2 ml 294 q) mr = Y := by
  obtain ⟨h1, h2, h3, h5, h6, -, -, -, -, h4, h7, -⟩ := id hg
  intro J
  induction J with
  | zero =>
    intro r q cnt a2 a3 a4 hJ hk
    rw [← hk a2 a3 a4]
    obtain ⟨-, ⟨g2, g3, -⟩, G, n, g6, g7, g8, -⟩ := hJ
    rw [wX5_ticks_12]
    by_cases hn : n = 0
    · subst hn
      simp only [wX5_ticks_0, wX5_ticks_1, wX5_ticks_4, wX5_ticks_5, wX5_ticks_6, wX5_ticks_7, wX5_ticks_8, wX5_ticks_9, wX5_ticks_10, wX5_ticks_11i, wX5_ticks_11r, wX5_ticks_11n, wX5_ticks_13, wX5_ticks_16, wX5_ticks_18, wX5_ticks_19, wX5_ticks_22, wX5_ticks_23, wX5_ticks_26, wX5_ticks_27, wX5_ticks_28, wX5_ticks_31, wX5_ticks_32, wX5_ticks_35, wX5_ticks_36, wX5_ticks_37, wX5_ticks_38, wX5_ticks_39, wX5_ticks_42, wX5_ticks_43, wX5_ticks_46, wX5_ticks_47, wX5_ticks_48i, wX5_ticks_48r, wX5_ticks_48n, wX5_ticks_49, wX5_ticks_50, wX5_ticks_53, wX5_ticks_55, wX5_ticks_56, wX5_ticks_57, wX5_ticks_58, wX5_ticks_59, wX5_ticks_60, wX5_ticks_61i, wX5_ticks_61r, wX5_ticks_61n, wX5_ticks_65, wX5_ticks_66, wX5_ticks_69, wX5_ticks_71, wX5_ticks_72, wX5_ticks_75, wX5_ticks_76, wX5_ticks_79, wX5_ticks_81, wX5_ticks_82, wX5_ticks_85, wX5_ticks_87, wX5_ticks_88, wX5_ticks_89, wX5_ticks_90, wX5_ticks_91i, wX5_ticks_91r, wX5_ticks_91n, wX5_ticks_94, wX5_ticks_97, wX5_ticks_98, wX5_ticks_99, wX5_ticks_100, wX5_ticks_103, wX5_ticks_104, wX5_ticks_105, wX5_ticks_108, wX5_ticks_109, wX5_ticks_112, wX5_ticks_113, wX5_ticks_116, wX5_ticks_117, wX5_ticks_120, wX5_ticks_121, wX5_ticks_122, wX5_ticks_125i, wX5_ticks_125r, wX5_ticks_125n, wX5_ticks_128, wX5_ticks_132i, wX5_ticks_132r, wX5_ticks_132n, wX5_ticks_134, wX5_ticks_135, wX5_ticks_138, wX5_ticks_139i, wX5_ticks_139r, wX5_ticks_139n, wX5_ticks_141, wX5_ticks_142, wX5_ticks_145, wX5_ticks_146, wX5_ticks_147, wX5_ticks_150, wX5_ticks_151, wX5_ticks_152, wX5_ticks_153, wX5_ticks_156i, wX5_ticks_156r, wX5_ticks_156n, wX5_ticks_159, wX5_ticks_162i, wX5_ticks_162r, wX5_ticks_162n, wX5_ticks_165, wX5_ticks_168, wX5_ticks_169, h1, h2, h3, h4, r2_s, Nat.reduceLT, g6, Int32.le_refl, if_true, Nat.add_zero]
      rfl
    · obtain ⟨b1, b2, b3, -⟩ := g8.1 0 (by omega)
      have ha := b3.2 (Nat.zero_le 0)
      have c1 : ¬ nI n ≤ nI 0 := by rw [nI_leI (by omega) (by decide)]; omega
      have c2 : ¬ lg_cmp (q 0 / lN 262144) (r 2).toInt64 = nI 0 := fun h9 => by
        have h8 := (lg_cmp_eq _ _).mp h9
        rw [b1, b2.ms.ar, g2, nI_l (by omega)] at h8
        have h7' := (pk_lEQ (by have := b2.1; omega) (by omega)).mp h8
        have : t < (G 0).1.1 := ha
        omega
      simp only [wX5_ticks_0, wX5_ticks_1, wX5_ticks_4, wX5_ticks_5, wX5_ticks_6, wX5_ticks_7, wX5_ticks_8, wX5_ticks_9, wX5_ticks_10, wX5_ticks_11i, wX5_ticks_11r, wX5_ticks_11n, wX5_ticks_13, wX5_ticks_16, wX5_ticks_18, wX5_ticks_19, wX5_ticks_22, wX5_ticks_23, wX5_ticks_26, wX5_ticks_27, wX5_ticks_28, wX5_ticks_31, wX5_ticks_32, wX5_ticks_35, wX5_ticks_36, wX5_ticks_37, wX5_ticks_38, wX5_ticks_39, wX5_ticks_42, wX5_ticks_43, wX5_ticks_46, wX5_ticks_47, wX5_ticks_48i, wX5_ticks_48r, wX5_ticks_48n, wX5_ticks_49, wX5_ticks_50, wX5_ticks_53, wX5_ticks_55, wX5_ticks_56, wX5_ticks_57, wX5_ticks_58, wX5_ticks_59, wX5_ticks_60, wX5_ticks_61i, wX5_ticks_61r, wX5_ticks_61n, wX5_ticks_65, wX5_ticks_66, wX5_ticks_69, wX5_ticks_71, wX5_ticks_72, wX5_ticks_75, wX5_ticks_76, wX5_ticks_79, wX5_ticks_81, wX5_ticks_82, wX5_ticks_85, wX5_ticks_87, wX5_ticks_88, wX5_ticks_89, wX5_ticks_90, wX5_ticks_91i, wX5_ticks_91r, wX5_ticks_91n, wX5_ticks_94, wX5_ticks_97, wX5_ticks_98, wX5_ticks_99, wX5_ticks_100, wX5_ticks_103, wX5_ticks_104, wX5_ticks_105, wX5_ticks_108, wX5_ticks_109, wX5_ticks_112, wX5_ticks_113, wX5_ticks_116, wX5_ticks_117, wX5_ticks_120, wX5_ticks_121, wX5_ticks_122, wX5_ticks_125i, wX5_ticks_125r, wX5_ticks_125n, wX5_ticks_128, wX5_ticks_132i, wX5_ticks_132r, wX5_ticks_132n, wX5_ticks_134, wX5_ticks_135, wX5_ticks_138, wX5_ticks_139i, wX5_ticks_139r, wX5_ticks_139n, wX5_ticks_141, wX5_ticks_142, wX5_ticks_145, wX5_ticks_146, wX5_ticks_147, wX5_ticks_150, wX5_ticks_151, wX5_ticks_152, wX5_ticks_153, wX5_ticks_156i, wX5_ticks_156r, wX5_ticks_156n, wX5_ticks_159, wX5_ticks_162i, wX5_ticks_162r, wX5_ticks_162n, wX5_ticks_165, wX5_ticks_168, wX5_ticks_169, h1, h2, h3, h4, h5, h6, h7, r2_s, Nat.reduceLT, g6, c1, if_false, cs_0, m_arr, aR_1, c2, Nat.add_zero]
      rfl
  | succ J ih =>
    intro r q cnt a2 a3 a4 hJ hk
    obtain ⟨m, e1, e2, e3, ⟨β', e4⟩, e5, e6⟩ := JG.due1 hJ hX hT hB
    obtain ⟨-, ⟨g2, g3, -⟩, G, n, g6, g7, g8, -⟩ := id hJ
    have hn1 : 1 ≤ n := Nat.le_trans (show 1 ≤ J + 1 by omega) g7.1
    have c1 : ¬ nI n ≤ nI 0 := by rw [nI_leI (by omega) (by decide)]; omega
    have c2 : lg_cmp (q 0 / lN 262144) (r 2).toInt64 = nI 0 := by
      refine (lg_cmp_eq _ _).mpr ?_
      rw [e1, e2.ar, g2, nI_l (by omega), e3]
    have d11 : dec r 11 11 = nI (n - 1) := by unfold dec; rw [u1_s, g6, pk_sub hn1]
    have hd : nM (dec r 11) = n - 1 := by unfold nM; rw [d11]; exact clampN (by omega)
    have n12 : n - 1 < 12500 := by
      obtain ⟨n', x1, x2⟩ := e5
      rw [d11] at x1
      have := (nI_eq (by omega) (by omega)).mp x1
      omega
    have n64 : ¬ lN 64 = 0 := by decide
    obtain ⟨f1, f2, f3, f4, f5⟩ := e2.dec
    have f5' : (enc m - enc m / lN 64 * lN 64).toInt32 = nI m.2.2.2.2.2 := f5
    have hrv := m_rv (d := d + 1) (mi := mi) (ml := ml) (q := popQ q (n - 1)) hg (show 1 - m.2.1 < 2 by omega) e2.2.2.1 e2.2.2.2.1 e2.2.2.2.2.1 e2.2.2.2.2.2.2 e2.2.2.2.2.2.1 e4.wf e5
    have hpv : pRv1 r q (q 0) = pRv (dec r 11) (popQ q (n - 1)) (1 - m.2.1) m.2.2.1 m.2.2.2.1 m.2.2.2.2.1 m.2.2.2.2.2 := by rw [e1, pRv1_enc e2, hd]
    rw [← hpv] at hrv
    have hP := m_tkP (d := d + 8) (mi := mi) (ml := ml) (q := q) (z := nI cnt) (M := q 0) hg d11 n12 (n - 1) 0 (by omega)
    rw [popQ_0] at hP
    rw [wX5_ticks_12]
    have hu : u1 r 11 (r 11 - nI 1) = dec r 11 := rfl
    have hE : nI 1 - nI m.2.1 = nI (1 - m.2.1) := pk_sub (by have := e2.2.1; omega)
    simp only [wX5_ticks_0, wX5_ticks_1, wX5_ticks_4, wX5_ticks_5, wX5_ticks_6, wX5_ticks_7, wX5_ticks_8, wX5_ticks_9, wX5_ticks_10, wX5_ticks_11i, wX5_ticks_11r, wX5_ticks_11n, wX5_ticks_13, wX5_ticks_16, wX5_ticks_18, wX5_ticks_19, wX5_ticks_22, wX5_ticks_23, wX5_ticks_26, wX5_ticks_27, wX5_ticks_28, wX5_ticks_31, wX5_ticks_32, wX5_ticks_35, wX5_ticks_36, wX5_ticks_37, wX5_ticks_38, wX5_ticks_39, wX5_ticks_42, wX5_ticks_43, wX5_ticks_46, wX5_ticks_47, wX5_ticks_48i, wX5_ticks_48r, wX5_ticks_48n, wX5_ticks_49, wX5_ticks_50, wX5_ticks_53, wX5_ticks_55, wX5_ticks_56, wX5_ticks_57, wX5_ticks_58, wX5_ticks_59, wX5_ticks_60, wX5_ticks_61i, wX5_ticks_61r, wX5_ticks_61n, wX5_ticks_65, wX5_ticks_66, wX5_ticks_69, wX5_ticks_71, wX5_ticks_72, wX5_ticks_75, wX5_ticks_76, wX5_ticks_79, wX5_ticks_81, wX5_ticks_82, wX5_ticks_85, wX5_ticks_87, wX5_ticks_88, wX5_ticks_89, wX5_ticks_90, wX5_ticks_91i, wX5_ticks_91r, wX5_ticks_91n, wX5_ticks_94, wX5_ticks_98, wX5_ticks_99, wX5_ticks_100, wX5_ticks_103, wX5_ticks_104, wX5_ticks_105, wX5_ticks_108, wX5_ticks_109, wX5_ticks_112, wX5_ticks_113, wX5_ticks_116, wX5_ticks_117, wX5_ticks_120, wX5_ticks_121, wX5_ticks_122, wX5_ticks_125i, wX5_ticks_125r, wX5_ticks_125n, wX5_ticks_128, wX5_ticks_131, wX5_ticks_132i, wX5_ticks_132r, wX5_ticks_132n, wX5_ticks_134, wX5_ticks_135, wX5_ticks_138, wX5_ticks_139i, wX5_ticks_139r, wX5_ticks_139n, wX5_ticks_141, wX5_ticks_142, wX5_ticks_145, wX5_ticks_146, wX5_ticks_147, wX5_ticks_150, wX5_ticks_151, wX5_ticks_152, wX5_ticks_153, wX5_ticks_156i, wX5_ticks_156r, wX5_ticks_156n, wX5_ticks_159, wX5_ticks_162i, wX5_ticks_162r, wX5_ticks_162n, wX5_ticks_165, wX5_ticks_168, wX5_ticks_169, h1, h2, h3, h4, h5, h6, h7, r2_s, Nat.reduceLT, g6, c1, if_false, cs_0, m_arr, aR_1, c2, if_true, u2_r2, r2_r2]
    rw [show u1 r 11 (nI n - nI 1) = dec r 11 by rw [← g6]; rfl, hP]
    simp only [wX5_ticks_0, wX5_ticks_1, wX5_ticks_4, wX5_ticks_5, wX5_ticks_6, wX5_ticks_7, wX5_ticks_8, wX5_ticks_9, wX5_ticks_10, wX5_ticks_11i, wX5_ticks_11r, wX5_ticks_11n, wX5_ticks_13, wX5_ticks_16, wX5_ticks_18, wX5_ticks_19, wX5_ticks_22, wX5_ticks_23, wX5_ticks_26, wX5_ticks_27, wX5_ticks_28, wX5_ticks_31, wX5_ticks_32, wX5_ticks_35, wX5_ticks_36, wX5_ticks_37, wX5_ticks_38, wX5_ticks_39, wX5_ticks_42, wX5_ticks_43, wX5_ticks_46, wX5_ticks_47, wX5_ticks_48i, wX5_ticks_48r, wX5_ticks_48n, wX5_ticks_49, wX5_ticks_50, wX5_ticks_53, wX5_ticks_55, wX5_ticks_56, wX5_ticks_57, wX5_ticks_58, wX5_ticks_59, wX5_ticks_60, wX5_ticks_61i, wX5_ticks_61r, wX5_ticks_61n, wX5_ticks_65, wX5_ticks_66, wX5_ticks_69, wX5_ticks_71, wX5_ticks_72, wX5_ticks_75, wX5_ticks_76, wX5_ticks_79, wX5_ticks_81, wX5_ticks_82, wX5_ticks_85, wX5_ticks_87, wX5_ticks_88, wX5_ticks_89, wX5_ticks_90, wX5_ticks_91i, wX5_ticks_91r, wX5_ticks_91n, wX5_ticks_94, wX5_ticks_97, wX5_ticks_98, wX5_ticks_99, wX5_ticks_100, wX5_ticks_103, wX5_ticks_104, wX5_ticks_105, wX5_ticks_108, wX5_ticks_109, wX5_ticks_112, wX5_ticks_113, wX5_ticks_116, wX5_ticks_117, wX5_ticks_120, wX5_ticks_121, wX5_ticks_122, wX5_ticks_125i, wX5_ticks_125r, wX5_ticks_125n, wX5_ticks_128, wX5_ticks_131, wX5_ticks_132i, wX5_ticks_132r, wX5_ticks_132n, wX5_ticks_134, wX5_ticks_135, wX5_ticks_138, wX5_ticks_139i, wX5_ticks_139r, wX5_ticks_139n, wX5_ticks_141, wX5_ticks_142, wX5_ticks_145, wX5_ticks_146, wX5_ticks_147, wX5_ticks_150, wX5_ticks_151, wX5_ticks_152, wX5_ticks_153, wX5_ticks_156i, wX5_ticks_156r, wX5_ticks_156n, wX5_ticks_159, wX5_ticks_162i, wX5_ticks_162r, wX5_ticks_162n, wX5_ticks_165, wX5_ticks_168, wX5_ticks_169, cs_0, cs_i, cs_r, cs_l, m_exO, m_ciO, m_kiO, m_vaO, aR_1, e1, f1, f2, f3, f4, f5', hE, n64, not_false_iff, h1, Nat.zero_le, Nat.reduceLeDiff, hrv, aR_v, nI_add]
    have hpd : pDue (J + 1) (r, q) = pDue J (pRv1 r q (enc m)) := by show pDue J (pRv1 r q (q 0)) = _; rw [e1]
    rw [e1] at e6
    exact ih _ _ (cnt + 1) _ _ _ e6 (fun a2 a3 a4 => by
      have := hk a2 a3 a4
      rw [show cnt + (J + 1) = cnt + 1 + J by omega, hpd] at this
      exact this)
/-- the timers of one exchange -/
theorem m_tkT (hg : MG gh mr) (hB : B ≤ 12012) (he : e < 2) (h1 : 1 ≤ t) {Y : Option Res} {a4 : Value} : ∀ j c r q h hb, c + j = 12 → JG X (std B) (Tt t (12 * e + c)) (t, 0) h hb N t D r q → (∀ z3, R (d + 8) mX5_ticks 162 [.ref 292, .int z, .int (nI e), .int z3, a4] [] gh (r2 mi 293 (pTms e j c (r, q)).1) (r2 ml 294 (pTms e j c (r, q)).2) mr = Y) → R (d + 8) mX5_ticks 140 [.ref 292, .int z, .int (nI e), .int (nI c), a4] [] gh (r2 mi 293 r) (r2 ml 294 q) mr = Y := by
  obtain ⟨g1, g2, g3, -, -, -, -, -, -, g4, -⟩ := id hg
  intro j
  induction j with
  | zero =>
    intro c r q h hb hc hJ hk
    obtain ⟨⟨⟨C, c1, c2, c3⟩, -⟩, -⟩ := hJ
    have hle : r 0 ≤ nI c := by rw [c3, nI_leI (by omega) (by omega)]; omega
    rw [wX5_ticks_140]
    simp only [wX5_ticks_0, wX5_ticks_1, wX5_ticks_4, wX5_ticks_5, wX5_ticks_6, wX5_ticks_7, wX5_ticks_8, wX5_ticks_9, wX5_ticks_10, wX5_ticks_11i, wX5_ticks_11r, wX5_ticks_11n, wX5_ticks_13, wX5_ticks_16, wX5_ticks_18, wX5_ticks_19, wX5_ticks_22, wX5_ticks_23, wX5_ticks_26, wX5_ticks_27, wX5_ticks_28, wX5_ticks_31, wX5_ticks_32, wX5_ticks_35, wX5_ticks_36, wX5_ticks_37, wX5_ticks_38, wX5_ticks_39, wX5_ticks_42, wX5_ticks_43, wX5_ticks_46, wX5_ticks_47, wX5_ticks_48i, wX5_ticks_48r, wX5_ticks_48n, wX5_ticks_49, wX5_ticks_50, wX5_ticks_53, wX5_ticks_55, wX5_ticks_56, wX5_ticks_57, wX5_ticks_58, wX5_ticks_59, wX5_ticks_60, wX5_ticks_61i, wX5_ticks_61r, wX5_ticks_61n, wX5_ticks_65, wX5_ticks_66, wX5_ticks_69, wX5_ticks_71, wX5_ticks_72, wX5_ticks_75, wX5_ticks_76, wX5_ticks_79, wX5_ticks_81, wX5_ticks_82, wX5_ticks_85, wX5_ticks_87, wX5_ticks_88, wX5_ticks_89, wX5_ticks_90, wX5_ticks_91i, wX5_ticks_91r, wX5_ticks_91n, wX5_ticks_94, wX5_ticks_97, wX5_ticks_98, wX5_ticks_99, wX5_ticks_100, wX5_ticks_103, wX5_ticks_104, wX5_ticks_105, wX5_ticks_108, wX5_ticks_109, wX5_ticks_112, wX5_ticks_113, wX5_ticks_116, wX5_ticks_117, wX5_ticks_120, wX5_ticks_121, wX5_ticks_122, wX5_ticks_125i, wX5_ticks_125r, wX5_ticks_125n, wX5_ticks_128, wX5_ticks_131, wX5_ticks_132i, wX5_ticks_132r, wX5_ticks_132n, wX5_ticks_134, wX5_ticks_135, wX5_ticks_138, wX5_ticks_139i, wX5_ticks_139r, wX5_ticks_139n, wX5_ticks_141, wX5_ticks_142, wX5_ticks_145, wX5_ticks_146, wX5_ticks_147, wX5_ticks_150, wX5_ticks_151, wX5_ticks_152, wX5_ticks_153, wX5_ticks_156i, wX5_ticks_156r, wX5_ticks_156n, wX5_ticks_159, wX5_ticks_165, wX5_ticks_168, wX5_ticks_169, g1, g2, g3, g4, r2_s, Nat.reduceLT, hle, if_true]
    exact hk (nI c)
  | succ j ih =>
    intro c r q h hb hc hJ hk
    have hc12 : c < 12 := by omega
    rw [wX5_ticks_140]
    by_cases p1 : nI c < r 0
    · have p2 : ¬ r 0 ≤ nI c := Int32.not_le.mpr p1
      obtain ⟨x1, h', hb', x2⟩ := hJ.tmT hB he hc12 h1
      have hr : Rm r 2 := (hJ.cap (std_cap hB)).mono rfl (by decide)
      simp only [wX5_ticks_0, wX5_ticks_1, wX5_ticks_4, wX5_ticks_5, wX5_ticks_6, wX5_ticks_7, wX5_ticks_8, wX5_ticks_9, wX5_ticks_10, wX5_ticks_11i, wX5_ticks_11r, wX5_ticks_11n, wX5_ticks_13, wX5_ticks_16, wX5_ticks_18, wX5_ticks_19, wX5_ticks_22, wX5_ticks_23, wX5_ticks_26, wX5_ticks_27, wX5_ticks_28, wX5_ticks_31, wX5_ticks_32, wX5_ticks_35, wX5_ticks_36, wX5_ticks_37, wX5_ticks_38, wX5_ticks_39, wX5_ticks_42, wX5_ticks_43, wX5_ticks_46, wX5_ticks_47, wX5_ticks_48i, wX5_ticks_48r, wX5_ticks_48n, wX5_ticks_49, wX5_ticks_50, wX5_ticks_53, wX5_ticks_55, wX5_ticks_56, wX5_ticks_57, wX5_ticks_58, wX5_ticks_59, wX5_ticks_60, wX5_ticks_61i, wX5_ticks_61r, wX5_ticks_61n, wX5_ticks_65, wX5_ticks_66, wX5_ticks_69, wX5_ticks_71, wX5_ticks_72, wX5_ticks_75, wX5_ticks_76, wX5_ticks_79, wX5_ticks_81, wX5_ticks_82, wX5_ticks_85, wX5_ticks_87, wX5_ticks_88, wX5_ticks_89, wX5_ticks_90, wX5_ticks_91i, wX5_ticks_91r, wX5_ticks_91n, wX5_ticks_94, wX5_ticks_97, wX5_ticks_98, wX5_ticks_99, wX5_ticks_100, wX5_ticks_103, wX5_ticks_104, wX5_ticks_105, wX5_ticks_108, wX5_ticks_109, wX5_ticks_112, wX5_ticks_113, wX5_ticks_116, wX5_ticks_117, wX5_ticks_120, wX5_ticks_121, wX5_ticks_122, wX5_ticks_125i, wX5_ticks_125r, wX5_ticks_125n, wX5_ticks_128, wX5_ticks_131, wX5_ticks_132i, wX5_ticks_132r, wX5_ticks_132n, wX5_ticks_134, wX5_ticks_135, wX5_ticks_138, wX5_ticks_139i, wX5_ticks_139r, wX5_ticks_139n, wX5_ticks_141, wX5_ticks_142, wX5_ticks_145, wX5_ticks_146, wX5_ticks_147, wX5_ticks_150, wX5_ticks_151, wX5_ticks_152, wX5_ticks_153, wX5_ticks_156i, wX5_ticks_156r, wX5_ticks_156n, wX5_ticks_159, wX5_ticks_165, wX5_ticks_168, wX5_ticks_169, g1, g2, g3, g4, r2_s, Nat.reduceLT, p2, if_false, cs_0, m_tm hg he hc12 hJ.wf hr x1, aR_v, nI_add]
      refine ih (c + 1) _ _ h' hb' (by omega) x2 (fun z3 => ?_)
      have := hk z3
      have e1 : pTms e (j + 1) c (r, q) = pTms e j (c + 1) (pTm r q e c) := by show (if nI c < r 0 then _ else _) = _; rw [if_pos p1]
      rw [e1] at this
      exact this
    · have p2 : r 0 ≤ nI c := Int32.not_lt.mp p1
      have e1 : pTms e (j + 1) c (r, q) = (r, q) := by show (if nI c < r 0 then _ else _) = _; rw [if_neg p1]
      rw [e1] at hk
      simp only [wX5_ticks_0, wX5_ticks_1, wX5_ticks_4, wX5_ticks_5, wX5_ticks_6, wX5_ticks_7, wX5_ticks_8, wX5_ticks_9, wX5_ticks_10, wX5_ticks_11i, wX5_ticks_11r, wX5_ticks_11n, wX5_ticks_13, wX5_ticks_16, wX5_ticks_18, wX5_ticks_19, wX5_ticks_22, wX5_ticks_23, wX5_ticks_26, wX5_ticks_27, wX5_ticks_28, wX5_ticks_31, wX5_ticks_32, wX5_ticks_35, wX5_ticks_36, wX5_ticks_37, wX5_ticks_38, wX5_ticks_39, wX5_ticks_42, wX5_ticks_43, wX5_ticks_46, wX5_ticks_47, wX5_ticks_48i, wX5_ticks_48r, wX5_ticks_48n, wX5_ticks_49, wX5_ticks_50, wX5_ticks_53, wX5_ticks_55, wX5_ticks_56, wX5_ticks_57, wX5_ticks_58, wX5_ticks_59, wX5_ticks_60, wX5_ticks_61i, wX5_ticks_61r, wX5_ticks_61n, wX5_ticks_65, wX5_ticks_66, wX5_ticks_69, wX5_ticks_71, wX5_ticks_72, wX5_ticks_75, wX5_ticks_76, wX5_ticks_79, wX5_ticks_81, wX5_ticks_82, wX5_ticks_85, wX5_ticks_87, wX5_ticks_88, wX5_ticks_89, wX5_ticks_90, wX5_ticks_91i, wX5_ticks_91r, wX5_ticks_91n, wX5_ticks_94, wX5_ticks_97, wX5_ticks_98, wX5_ticks_99, wX5_ticks_100, wX5_ticks_103, wX5_ticks_104, wX5_ticks_105, wX5_ticks_108, wX5_ticks_109, wX5_ticks_112, wX5_ticks_113, wX5_ticks_116, wX5_ticks_117, wX5_ticks_120, wX5_ticks_121, wX5_ticks_122, wX5_ticks_125i, wX5_ticks_125r, wX5_ticks_125n, wX5_ticks_128, wX5_ticks_131, wX5_ticks_132i, wX5_ticks_132r, wX5_ticks_132n, wX5_ticks_134, wX5_ticks_135, wX5_ticks_138, wX5_ticks_139i, wX5_ticks_139r, wX5_ticks_139n, wX5_ticks_141, wX5_ticks_142, wX5_ticks_145, wX5_ticks_146, wX5_ticks_147, wX5_ticks_150, wX5_ticks_151, wX5_ticks_152, wX5_ticks_153, wX5_ticks_156i, wX5_ticks_156r, wX5_ticks_156n, wX5_ticks_159, wX5_ticks_165, wX5_ticks_168, wX5_ticks_169, g1, g2, g3, g4, r2_s, Nat.reduceLT, p2, if_true]
      exact hk (nI c)
theorem m_tk (hg : MG gh mr) (hJ : JI X B N t D r q) (hX : ∀ e c, X e c ≤ 1) (hB : B ≤ 12012) (ht : t < 300000) : callT (d + 9) mX5_ticks [.ref 292] (gh, r2 mi 293 r, r2 ml 294 q, mr) = some (.inl (some (.int (nI (pJ r q)))), gh, r2 mi 293 (pTk (r, q)).1, r2 ml 294 (pTk (r, q)).2, mr) := by
  obtain ⟨h, hb, hJ⟩ := hJ
  obtain ⟨g1, g2, g3, -, -, -, -, -, -, g4, -⟩ := id hg
  have n20 : ¬ nI 2 ≤ nI 0 := by decide
  have n21 : ¬ nI 2 ≤ nI 1 := by decide
  have n22 : nI 2 ≤ nI 2 := by decide
  have h1 := JG.dues hX Tt_0 hB _ _ _ (hJ.tkA ht)
  obtain ⟨h', hb', h2⟩ := JG.tms hB (e := 0) (by decide) (by omega) 12 0 _ _ h hb rfl h1
  rw [eX5_ticks]
  simp only [wX5_ticks_0, wX5_ticks_1, wX5_ticks_4, wX5_ticks_5, wX5_ticks_6, wX5_ticks_7, wX5_ticks_8, wX5_ticks_9, wX5_ticks_10, wX5_ticks_11i, wX5_ticks_11r, wX5_ticks_11n, wX5_ticks_13, wX5_ticks_16, wX5_ticks_18, wX5_ticks_19, wX5_ticks_22, wX5_ticks_23, wX5_ticks_26, wX5_ticks_27, wX5_ticks_28, wX5_ticks_31, wX5_ticks_32, wX5_ticks_35, wX5_ticks_36, wX5_ticks_37, wX5_ticks_38, wX5_ticks_39, wX5_ticks_42, wX5_ticks_43, wX5_ticks_46, wX5_ticks_47, wX5_ticks_48i, wX5_ticks_48r, wX5_ticks_48n, wX5_ticks_49, wX5_ticks_50, wX5_ticks_53, wX5_ticks_55, wX5_ticks_56, wX5_ticks_57, wX5_ticks_58, wX5_ticks_59, wX5_ticks_60, wX5_ticks_61i, wX5_ticks_61r, wX5_ticks_61n, wX5_ticks_65, wX5_ticks_66, wX5_ticks_69, wX5_ticks_71, wX5_ticks_72, wX5_ticks_75, wX5_ticks_76, wX5_ticks_79, wX5_ticks_81, wX5_ticks_82, wX5_ticks_85, wX5_ticks_87, wX5_ticks_88, wX5_ticks_89, wX5_ticks_90, wX5_ticks_91i, wX5_ticks_91r, wX5_ticks_91n, wX5_ticks_94, wX5_ticks_97, wX5_ticks_98, wX5_ticks_99, wX5_ticks_100, wX5_ticks_103, wX5_ticks_104, wX5_ticks_105, wX5_ticks_108, wX5_ticks_109, wX5_ticks_112, wX5_ticks_113, wX5_ticks_116, wX5_ticks_117, wX5_ticks_120, wX5_ticks_121, wX5_ticks_122, wX5_ticks_125i, wX5_ticks_125r, wX5_ticks_125n, wX5_ticks_128, wX5_ticks_131, wX5_ticks_132i, wX5_ticks_132r, wX5_ticks_132n, wX5_ticks_134, wX5_ticks_135, wX5_ticks_138, wX5_ticks_139i, wX5_ticks_139r, wX5_ticks_139n, wX5_ticks_141, wX5_ticks_142, wX5_ticks_145, wX5_ticks_146, wX5_ticks_147, wX5_ticks_150, wX5_ticks_151, wX5_ticks_152, wX5_ticks_153, wX5_ticks_156i, wX5_ticks_156r, wX5_ticks_156n, wX5_ticks_159, wX5_ticks_162i, wX5_ticks_162r, wX5_ticks_162n, wX5_ticks_165, wX5_ticks_168, wX5_ticks_169, g1, g2, g3, g4, r2_s, r2_r2, Nat.reduceLT, u2_r2, inc_f]
  refine m_tkD hg hX Tt_0 hB (pJ r q) _ _ 0 _ _ _ (hJ.tkA ht) (fun a2 a3 a4 => ?_)
  rw [Nat.zero_add]
  simp only [wX5_ticks_0, wX5_ticks_1, wX5_ticks_4, wX5_ticks_5, wX5_ticks_6, wX5_ticks_7, wX5_ticks_8, wX5_ticks_9, wX5_ticks_10, wX5_ticks_11i, wX5_ticks_11r, wX5_ticks_11n, wX5_ticks_13, wX5_ticks_16, wX5_ticks_18, wX5_ticks_19, wX5_ticks_22, wX5_ticks_23, wX5_ticks_26, wX5_ticks_27, wX5_ticks_28, wX5_ticks_31, wX5_ticks_32, wX5_ticks_35, wX5_ticks_36, wX5_ticks_37, wX5_ticks_38, wX5_ticks_39, wX5_ticks_42, wX5_ticks_43, wX5_ticks_46, wX5_ticks_47, wX5_ticks_48i, wX5_ticks_48r, wX5_ticks_48n, wX5_ticks_49, wX5_ticks_50, wX5_ticks_53, wX5_ticks_55, wX5_ticks_56, wX5_ticks_57, wX5_ticks_58, wX5_ticks_59, wX5_ticks_60, wX5_ticks_61i, wX5_ticks_61r, wX5_ticks_61n, wX5_ticks_65, wX5_ticks_66, wX5_ticks_69, wX5_ticks_71, wX5_ticks_72, wX5_ticks_75, wX5_ticks_76, wX5_ticks_79, wX5_ticks_81, wX5_ticks_82, wX5_ticks_85, wX5_ticks_87, wX5_ticks_88, wX5_ticks_89, wX5_ticks_90, wX5_ticks_91i, wX5_ticks_91r, wX5_ticks_91n, wX5_ticks_94, wX5_ticks_97, wX5_ticks_98, wX5_ticks_99, wX5_ticks_100, wX5_ticks_103, wX5_ticks_104, wX5_ticks_105, wX5_ticks_108, wX5_ticks_109, wX5_ticks_112, wX5_ticks_113, wX5_ticks_116, wX5_ticks_117, wX5_ticks_120, wX5_ticks_121, wX5_ticks_122, wX5_ticks_125i, wX5_ticks_125r, wX5_ticks_125n, wX5_ticks_128, wX5_ticks_131, wX5_ticks_132i, wX5_ticks_132r, wX5_ticks_132n, wX5_ticks_134, wX5_ticks_135, wX5_ticks_138, wX5_ticks_139i, wX5_ticks_139r, wX5_ticks_139n, wX5_ticks_141, wX5_ticks_142, wX5_ticks_145, wX5_ticks_146, wX5_ticks_147, wX5_ticks_150, wX5_ticks_151, wX5_ticks_152, wX5_ticks_153, wX5_ticks_156i, wX5_ticks_156r, wX5_ticks_156n, wX5_ticks_159, wX5_ticks_162i, wX5_ticks_162r, wX5_ticks_162n, wX5_ticks_165, wX5_ticks_168, wX5_ticks_169]
  rw [wX5_ticks_133]
  simp only [wX5_ticks_0, wX5_ticks_1, wX5_ticks_4, wX5_ticks_5, wX5_ticks_6, wX5_ticks_7, wX5_ticks_8, wX5_ticks_9, wX5_ticks_10, wX5_ticks_11i, wX5_ticks_11r, wX5_ticks_11n, wX5_ticks_13, wX5_ticks_16, wX5_ticks_18, wX5_ticks_19, wX5_ticks_22, wX5_ticks_23, wX5_ticks_26, wX5_ticks_27, wX5_ticks_28, wX5_ticks_31, wX5_ticks_32, wX5_ticks_35, wX5_ticks_36, wX5_ticks_37, wX5_ticks_38, wX5_ticks_39, wX5_ticks_42, wX5_ticks_43, wX5_ticks_46, wX5_ticks_47, wX5_ticks_48i, wX5_ticks_48r, wX5_ticks_48n, wX5_ticks_49, wX5_ticks_50, wX5_ticks_53, wX5_ticks_55, wX5_ticks_56, wX5_ticks_57, wX5_ticks_58, wX5_ticks_59, wX5_ticks_60, wX5_ticks_61i, wX5_ticks_61r, wX5_ticks_61n, wX5_ticks_65, wX5_ticks_66, wX5_ticks_69, wX5_ticks_71, wX5_ticks_72, wX5_ticks_75, wX5_ticks_76, wX5_ticks_79, wX5_ticks_81, wX5_ticks_82, wX5_ticks_85, wX5_ticks_87, wX5_ticks_88, wX5_ticks_89, wX5_ticks_90, wX5_ticks_91i, wX5_ticks_91r, wX5_ticks_91n, wX5_ticks_94, wX5_ticks_97, wX5_ticks_98, wX5_ticks_99, wX5_ticks_100, wX5_ticks_103, wX5_ticks_104, wX5_ticks_105, wX5_ticks_108, wX5_ticks_109, wX5_ticks_112, wX5_ticks_113, wX5_ticks_116, wX5_ticks_117, wX5_ticks_120, wX5_ticks_121, wX5_ticks_122, wX5_ticks_125i, wX5_ticks_125r, wX5_ticks_125n, wX5_ticks_128, wX5_ticks_131, wX5_ticks_132i, wX5_ticks_132r, wX5_ticks_132n, wX5_ticks_134, wX5_ticks_135, wX5_ticks_138, wX5_ticks_139i, wX5_ticks_139r, wX5_ticks_139n, wX5_ticks_141, wX5_ticks_142, wX5_ticks_145, wX5_ticks_146, wX5_ticks_147, wX5_ticks_150, wX5_ticks_151, wX5_ticks_152, wX5_ticks_153, wX5_ticks_156i, wX5_ticks_156r, wX5_ticks_156n, wX5_ticks_159, wX5_ticks_162i, wX5_ticks_162r, wX5_ticks_162n, wX5_ticks_165, wX5_ticks_168, wX5_ticks_169, n20, if_false]
  refine m_tkT (e := 0) hg hB (by decide) (by omega) 12 0 _ _ h hb rfl h1 (fun z3 => ?_)
  simp only [wX5_ticks_0, wX5_ticks_1, wX5_ticks_4, wX5_ticks_5, wX5_ticks_6, wX5_ticks_7, wX5_ticks_8, wX5_ticks_9, wX5_ticks_10, wX5_ticks_11i, wX5_ticks_11r, wX5_ticks_11n, wX5_ticks_13, wX5_ticks_16, wX5_ticks_18, wX5_ticks_19, wX5_ticks_22, wX5_ticks_23, wX5_ticks_26, wX5_ticks_27, wX5_ticks_28, wX5_ticks_31, wX5_ticks_32, wX5_ticks_35, wX5_ticks_36, wX5_ticks_37, wX5_ticks_38, wX5_ticks_39, wX5_ticks_42, wX5_ticks_43, wX5_ticks_46, wX5_ticks_47, wX5_ticks_48i, wX5_ticks_48r, wX5_ticks_48n, wX5_ticks_49, wX5_ticks_50, wX5_ticks_53, wX5_ticks_55, wX5_ticks_56, wX5_ticks_57, wX5_ticks_58, wX5_ticks_59, wX5_ticks_60, wX5_ticks_61i, wX5_ticks_61r, wX5_ticks_61n, wX5_ticks_65, wX5_ticks_66, wX5_ticks_69, wX5_ticks_71, wX5_ticks_72, wX5_ticks_75, wX5_ticks_76, wX5_ticks_79, wX5_ticks_81, wX5_ticks_82, wX5_ticks_85, wX5_ticks_87, wX5_ticks_88, wX5_ticks_89, wX5_ticks_90, wX5_ticks_91i, wX5_ticks_91r, wX5_ticks_91n, wX5_ticks_94, wX5_ticks_97, wX5_ticks_98, wX5_ticks_99, wX5_ticks_100, wX5_ticks_103, wX5_ticks_104, wX5_ticks_105, wX5_ticks_108, wX5_ticks_109, wX5_ticks_112, wX5_ticks_113, wX5_ticks_116, wX5_ticks_117, wX5_ticks_120, wX5_ticks_121, wX5_ticks_122, wX5_ticks_125i, wX5_ticks_125r, wX5_ticks_125n, wX5_ticks_128, wX5_ticks_131, wX5_ticks_132i, wX5_ticks_132r, wX5_ticks_132n, wX5_ticks_134, wX5_ticks_135, wX5_ticks_138, wX5_ticks_139i, wX5_ticks_139r, wX5_ticks_139n, wX5_ticks_141, wX5_ticks_142, wX5_ticks_145, wX5_ticks_146, wX5_ticks_147, wX5_ticks_150, wX5_ticks_151, wX5_ticks_152, wX5_ticks_153, wX5_ticks_156i, wX5_ticks_156r, wX5_ticks_156n, wX5_ticks_159, wX5_ticks_162i, wX5_ticks_162r, wX5_ticks_162n, wX5_ticks_165, wX5_ticks_168, wX5_ticks_169, nI_add, Nat.reduceAdd]
  rw [wX5_ticks_133]
  simp only [wX5_ticks_0, wX5_ticks_1, wX5_ticks_4, wX5_ticks_5, wX5_ticks_6, wX5_ticks_7, wX5_ticks_8, wX5_ticks_9, wX5_ticks_10, wX5_ticks_11i, wX5_ticks_11r, wX5_ticks_11n, wX5_ticks_13, wX5_ticks_16, wX5_ticks_18, wX5_ticks_19, wX5_ticks_22, wX5_ticks_23, wX5_ticks_26, wX5_ticks_27, wX5_ticks_28, wX5_ticks_31, wX5_ticks_32, wX5_ticks_35, wX5_ticks_36, wX5_ticks_37, wX5_ticks_38, wX5_ticks_39, wX5_ticks_42, wX5_ticks_43, wX5_ticks_46, wX5_ticks_47, wX5_ticks_48i, wX5_ticks_48r, wX5_ticks_48n, wX5_ticks_49, wX5_ticks_50, wX5_ticks_53, wX5_ticks_55, wX5_ticks_56, wX5_ticks_57, wX5_ticks_58, wX5_ticks_59, wX5_ticks_60, wX5_ticks_61i, wX5_ticks_61r, wX5_ticks_61n, wX5_ticks_65, wX5_ticks_66, wX5_ticks_69, wX5_ticks_71, wX5_ticks_72, wX5_ticks_75, wX5_ticks_76, wX5_ticks_79, wX5_ticks_81, wX5_ticks_82, wX5_ticks_85, wX5_ticks_87, wX5_ticks_88, wX5_ticks_89, wX5_ticks_90, wX5_ticks_91i, wX5_ticks_91r, wX5_ticks_91n, wX5_ticks_94, wX5_ticks_97, wX5_ticks_98, wX5_ticks_99, wX5_ticks_100, wX5_ticks_103, wX5_ticks_104, wX5_ticks_105, wX5_ticks_108, wX5_ticks_109, wX5_ticks_112, wX5_ticks_113, wX5_ticks_116, wX5_ticks_117, wX5_ticks_120, wX5_ticks_121, wX5_ticks_122, wX5_ticks_125i, wX5_ticks_125r, wX5_ticks_125n, wX5_ticks_128, wX5_ticks_131, wX5_ticks_132i, wX5_ticks_132r, wX5_ticks_132n, wX5_ticks_134, wX5_ticks_135, wX5_ticks_138, wX5_ticks_139i, wX5_ticks_139r, wX5_ticks_139n, wX5_ticks_141, wX5_ticks_142, wX5_ticks_145, wX5_ticks_146, wX5_ticks_147, wX5_ticks_150, wX5_ticks_151, wX5_ticks_152, wX5_ticks_153, wX5_ticks_156i, wX5_ticks_156r, wX5_ticks_156n, wX5_ticks_159, wX5_ticks_162i, wX5_ticks_162r, wX5_ticks_162n, wX5_ticks_165, wX5_ticks_168, wX5_ticks_169, n21, if_false]
  refine m_tkT (e := 1) hg hB (by decide) (by omega) 12 0 _ _ h' hb' rfl h2 (fun z3 => ?_)
  simp only [wX5_ticks_0, wX5_ticks_1, wX5_ticks_4, wX5_ticks_5, wX5_ticks_6, wX5_ticks_7, wX5_ticks_8, wX5_ticks_9, wX5_ticks_10, wX5_ticks_11i, wX5_ticks_11r, wX5_ticks_11n, wX5_ticks_13, wX5_ticks_16, wX5_ticks_18, wX5_ticks_19, wX5_ticks_22, wX5_ticks_23, wX5_ticks_26, wX5_ticks_27, wX5_ticks_28, wX5_ticks_31, wX5_ticks_32, wX5_ticks_35, wX5_ticks_36, wX5_ticks_37, wX5_ticks_38, wX5_ticks_39, wX5_ticks_42, wX5_ticks_43, wX5_ticks_46, wX5_ticks_47, wX5_ticks_48i, wX5_ticks_48r, wX5_ticks_48n, wX5_ticks_49, wX5_ticks_50, wX5_ticks_53, wX5_ticks_55, wX5_ticks_56, wX5_ticks_57, wX5_ticks_58, wX5_ticks_59, wX5_ticks_60, wX5_ticks_61i, wX5_ticks_61r, wX5_ticks_61n, wX5_ticks_65, wX5_ticks_66, wX5_ticks_69, wX5_ticks_71, wX5_ticks_72, wX5_ticks_75, wX5_ticks_76, wX5_ticks_79, wX5_ticks_81, wX5_ticks_82, wX5_ticks_85, wX5_ticks_87, wX5_ticks_88, wX5_ticks_89, wX5_ticks_90, wX5_ticks_91i, wX5_ticks_91r, wX5_ticks_91n, wX5_ticks_94, wX5_ticks_97, wX5_ticks_98, wX5_ticks_99, wX5_ticks_100, wX5_ticks_103, wX5_ticks_104, wX5_ticks_105, wX5_ticks_108, wX5_ticks_109, wX5_ticks_112, wX5_ticks_113, wX5_ticks_116, wX5_ticks_117, wX5_ticks_120, wX5_ticks_121, wX5_ticks_122, wX5_ticks_125i, wX5_ticks_125r, wX5_ticks_125n, wX5_ticks_128, wX5_ticks_131, wX5_ticks_132i, wX5_ticks_132r, wX5_ticks_132n, wX5_ticks_134, wX5_ticks_135, wX5_ticks_138, wX5_ticks_139i, wX5_ticks_139r, wX5_ticks_139n, wX5_ticks_141, wX5_ticks_142, wX5_ticks_145, wX5_ticks_146, wX5_ticks_147, wX5_ticks_150, wX5_ticks_151, wX5_ticks_152, wX5_ticks_153, wX5_ticks_156i, wX5_ticks_156r, wX5_ticks_156n, wX5_ticks_159, wX5_ticks_162i, wX5_ticks_162r, wX5_ticks_162n, wX5_ticks_165, wX5_ticks_168, wX5_ticks_169, nI_add, Nat.reduceAdd]
  rw [wX5_ticks_133]
  simp only [wX5_ticks_0, wX5_ticks_1, wX5_ticks_4, wX5_ticks_5, wX5_ticks_6, wX5_ticks_7, wX5_ticks_8, wX5_ticks_9, wX5_ticks_10, wX5_ticks_11i, wX5_ticks_11r, wX5_ticks_11n, wX5_ticks_13, wX5_ticks_16, wX5_ticks_18, wX5_ticks_19, wX5_ticks_22, wX5_ticks_23, wX5_ticks_26, wX5_ticks_27, wX5_ticks_28, wX5_ticks_31, wX5_ticks_32, wX5_ticks_35, wX5_ticks_36, wX5_ticks_37, wX5_ticks_38, wX5_ticks_39, wX5_ticks_42, wX5_ticks_43, wX5_ticks_46, wX5_ticks_47, wX5_ticks_48i, wX5_ticks_48r, wX5_ticks_48n, wX5_ticks_49, wX5_ticks_50, wX5_ticks_53, wX5_ticks_55, wX5_ticks_56, wX5_ticks_57, wX5_ticks_58, wX5_ticks_59, wX5_ticks_60, wX5_ticks_61i, wX5_ticks_61r, wX5_ticks_61n, wX5_ticks_65, wX5_ticks_66, wX5_ticks_69, wX5_ticks_71, wX5_ticks_72, wX5_ticks_75, wX5_ticks_76, wX5_ticks_79, wX5_ticks_81, wX5_ticks_82, wX5_ticks_85, wX5_ticks_87, wX5_ticks_88, wX5_ticks_89, wX5_ticks_90, wX5_ticks_91i, wX5_ticks_91r, wX5_ticks_91n, wX5_ticks_94, wX5_ticks_97, wX5_ticks_98, wX5_ticks_99, wX5_ticks_100, wX5_ticks_103, wX5_ticks_104, wX5_ticks_105, wX5_ticks_108, wX5_ticks_109, wX5_ticks_112, wX5_ticks_113, wX5_ticks_116, wX5_ticks_117, wX5_ticks_120, wX5_ticks_121, wX5_ticks_122, wX5_ticks_125i, wX5_ticks_125r, wX5_ticks_125n, wX5_ticks_128, wX5_ticks_131, wX5_ticks_132i, wX5_ticks_132r, wX5_ticks_132n, wX5_ticks_134, wX5_ticks_135, wX5_ticks_138, wX5_ticks_139i, wX5_ticks_139r, wX5_ticks_139n, wX5_ticks_141, wX5_ticks_142, wX5_ticks_145, wX5_ticks_146, wX5_ticks_147, wX5_ticks_150, wX5_ticks_151, wX5_ticks_152, wX5_ticks_153, wX5_ticks_156i, wX5_ticks_156r, wX5_ticks_156n, wX5_ticks_159, wX5_ticks_162i, wX5_ticks_162r, wX5_ticks_162n, wX5_ticks_165, wX5_ticks_168, wX5_ticks_169, n22, if_true]
  rfl
end TK2
