/-! the reference: attempts, releases, resets -/
abbrev PS : Type := (Nat → Int32) × (Nat → Int64)
def nM (r : Nat → Int32) : Nat := (r 11).toNatClampNeg
def pSend (r : Nat → Int32) (q : Nat → Int64) (e c k v : Nat) : PS := mSends r q (nM r) e c k v
/-- room for x more messages -/
def Rm (r : Nat → Int32) (x : Nat) : Prop := ∃ n, r 11 = nI n ∧ n + x ≤ 12500
theorem inc_f {r : Nat → Int32} {j : Nat} : u1 r j (r j + nI 1) = inc r j := rfl
theorem dec_f {r : Nat → Int32} {j : Nat} : u1 r j (r j - nI 1) = dec r j := rfl
theorem sE_n {r : Nat → Int32} {e c w j : Nat} {z : Int32} (h : j < 24 ∨ 240 ≤ j) (he : e < 2) (hc : c < 12) (hw : w < 9) : sE r e c w z j = r j := by
  unfold sE eI
  exact u1_n (by omega)
theorem sC_n {r : Nat → Int32} {n w j : Nat} {z : Int32} (h : j < 240) : sC r n w z j = r j := by
  unfold sC cI
  exact u1_n (by omega)
theorem sE_e {r : Nat → Int32} {e c w e' c' w' : Nat} {z : Int32} (h : ¬ (e' = e ∧ c' = c ∧ w' = w)) (he : e < 2) (hw : w < 9) (he' : e' < 2) (hw' : w' < 9) : sE r e c w z (eI e' c' w') = r (eI e' c' w') := by
  unfold sE eI
  exact u1_n (by omega)
theorem sE_s {r : Nat → Int32} {e c w : Nat} {z : Int32} : sE r e c w z (eI e c w) = z := u1_s
theorem sC_c {r : Nat → Int32} {n w n' w' : Nat} {z : Int32} (h : ¬ (n' = n ∧ w' = w)) (hw : w < 6) (hw' : w' < 6) : sC r n w z (cI n' w') = r (cI n' w') := by
  unfold sC cI
  exact u1_n (by omega)
theorem sC_s {r : Nat → Int32} {n w : Nat} {z : Int32} : sC r n w z (cI n w) = z := u1_s
theorem Rm.mono {r r' : Nat → Int32} {x y : Nat} (h : Rm r x) (hr : r' 11 = r 11) (hy : y ≤ x) : Rm r' y := by
  obtain ⟨n, h1, h2⟩ := h
  exact ⟨n, hr.trans h1, by omega⟩
theorem Rm.send {r : Nat → Int32} {q : Nat → Int64} {e c k v x y : Nat} (h : Rm r x) (hy : y + 1 ≤ x) (he : e < 2) : Rm (pSend r q e c k v).1 y := by
  obtain ⟨n, h1, h2⟩ := h
  unfold pSend mSends
  split
  · refine ⟨n, ?_, by omega⟩
    show inc (dec (inc r 6) (3 + e)) 7 11 = nI n
    unfold inc dec
    rw [u1_n (show (11 : Nat) ≠ 7 by decide), u1_n (show 11 ≠ 3 + e by omega), u1_n (show (11 : Nat) ≠ 6 by decide)]
    exact h1
  · refine ⟨n + 1, ?_, by omega⟩
    show inc (inc r 6) 11 11 = nI (n + 1)
    unfold inc
    rw [u1_s, u1_n (show (11 : Nat) ≠ 6 by decide), h1, nI_add]
section MOD4
variable {d : Nat} {g : Gh} {mi : MI} {ml : ML} {mr : MR} {e c k v n j w N : Nat} {r : Nat → Int32} {q : Nat → Int64} {z z1 z2 but own oth : Int32}
theorem o_ (hg : MG g mr) (he : e < 2) (hc : c < 12) (hw : w < 9) : callT (d + 2) mX5_of [.ref 292, .int (nI e), .int (nI c), .int (nI w)] (g, r2 mi 293 r, ml, mr) = some (.inl (some (.int (r (eI e c w)))), g, r2 mi 293 r, ml, mr) := by rw [mo hg he hc hw, r2_s]
theorem s_ (hg : MG g mr) (he : e < 2) (hc : c < 12) (hw : w < 9) : callT (d + 2) mX5_set [.ref 292, .int (nI e), .int (nI c), .int (nI w), .int z] (g, r2 mi 293 r, ml, mr) = some (.inl none, g, r2 mi 293 (sE r e c w z), ml, mr) := by rw [mst hg he hc hw, r2_s, r2_r2]
theorem oc_ (hg : MG g mr) (hn : n < 40) (hw : w < 6) : callT (d + 1) mX5_ofCall [.ref 292, .int (nI n), .int (nI w)] (g, r2 mi 293 r, ml, mr) = some (.inl (some (.int (r (cI n w)))), g, r2 mi 293 r, ml, mr) := by rw [moc hg hn hw, r2_s]
theorem sc_ (hg : MG g mr) (hn : n < 40) (hw : w < 6) : callT (d + 1) mX5_setCall [.ref 292, .int (nI n), .int (nI w), .int z] (g, r2 mi 293 r, ml, mr) = some (.inl none, g, r2 mi 293 (sC r n w z), ml, mr) := by rw [msc hg hn hw, r2_s, r2_r2]
theorem snd_ (hg : MG g mr) (he : e < 2) (hc : c < 12) (hk : k < 16) (hv : v < 8) (hr : Rm r 1) : callT (d + 3) mX5_sends [.ref 292, .int (nI e), .int (nI c), .int (nI k), .int (nI v)] (g, r2 mi 293 r, r2 ml 294 q, mr) = some (.inl none, g, r2 mi 293 (pSend r q e c k v).1, r2 ml 294 (pSend r q e c k v).2, mr) := by
  obtain ⟨n, h1, h2⟩ := hr
  have hn : nM r = n := by unfold nM; rw [h1]; exact clampN (by omega)
  rw [m_sends hg he hc hk hv (n := n) (by rw [r2_s]; exact h1) (by omega)]
  simp only [r2_s, r2_r2, pSend, hn]
theorem ch_ (hg : MG g mr) (he : e < 2) (hN : r 0 = nI N) (hN2 : N ≤ 12) : callT (d + 3) mX5_chosen [.ref 292, .int (nI e), .int but] (g, r2 mi 293 r, ml, mr) = some (.inl (some (.int (mChosen r e but N))), g, r2 mi 293 r, ml, mr) := by
  rw [m_chosen hg he (by rw [r2_s]; exact hN) hN2, r2_s]
/-- a call's next attempt: call n, its exchange e, check k, circuit c -/
def pAtt (r : Nat → Int32) (q : Nat → Int64) (n e k c : Nat) : PS :=
  pSend (sE (sE (sE (sE (inc (sC (sC (sC r n 2 (r (cI n 2) + nI 1)) n 1 (nI c)) n 3 (nI 0)) 10) e c 0 (nI 1)) e c 1 (nI n)) e c 2 (if k = 1 then nI 3 else nI 30)) e c 6 (nI k)) q e c 0 k
theorem m_att (hg : MG g mr) (hn : n < 40) (hc : c < 12) (he : e < 2) (hk : k < 2) (hre : r (cI n 0) = nI e) (hrk : r (cI n 5) = nI k) (hr : Rm r 1) : callT (d + 4) mX5_attempts [.ref 292, .int (nI n), .int (nI c)] (g, r2 mi 293 r, r2 ml 294 q, mr) = some (.inl none, g, r2 mi 293 (pAtt r q n e k c).1, r2 ml 294 (pAtt r q n e k c).2, mr) := by
  obtain ⟨h1, h2, h3, -, -, -, -, -, -, h4, -⟩ := id hg
  have w0 : 0 < 6 := by decide
  have w5 : 5 < 6 := by decide
  rw [eX5_attempts]
  have hR : Rm (sE (sE (sE (sE (inc (sC (sC (sC r n 2 (r (cI n 2) + nI 1)) n 1 (nI c)) n 3 (nI 0)) 10) e c 0 (nI 1)) e c 1 (nI n)) e c 2 (if k = 1 then nI 3 else nI 30)) e c 6 (nI k)) 1 := by
    refine hr.mono ?_ (Nat.le_refl 1)
    rw [sE_n (Or.inl (by decide)) he hc (by decide), sE_n (Or.inl (by decide)) he hc (by decide), sE_n (Or.inl (by decide)) he hc (by decide), sE_n (Or.inl (by decide)) he hc (by decide)]
    unfold inc
    rw [u1_n (by decide), sC_n (by decide), sC_n (by decide), sC_n (by decide)]
  unfold pAtt
  have hk01 : k = 0 ∨ k = 1 := by omega
  rcases hk01 with rfl | rfl
  · simp only [n0_1, if_false, Nat.zero_ne_one] at hR ⊢
    simp only [wX5_attempts_0, wX5_attempts_1, wX5_attempts_2, wX5_attempts_3, wX5_attempts_6i, wX5_attempts_6r, wX5_attempts_6n, wX5_attempts_7, wX5_attempts_8, wX5_attempts_9, wX5_attempts_10, wX5_attempts_13i, wX5_attempts_13r, wX5_attempts_13n, wX5_attempts_15, wX5_attempts_16, wX5_attempts_17, wX5_attempts_18, wX5_attempts_19, wX5_attempts_20, wX5_attempts_21, wX5_attempts_24, wX5_attempts_25, wX5_attempts_26, wX5_attempts_29, wX5_attempts_30, wX5_attempts_31, wX5_attempts_32, wX5_attempts_33, wX5_attempts_36, wX5_attempts_37, wX5_attempts_38, wX5_attempts_39, wX5_attempts_40, wX5_attempts_43, wX5_attempts_44, wX5_attempts_47, wX5_attempts_49, wX5_attempts_50, wX5_attempts_51, wX5_attempts_52, wX5_attempts_53, wX5_attempts_54, wX5_attempts_55, wX5_attempts_56, wX5_attempts_57, wX5_attempts_58, wX5_attempts_59, wX5_attempts_62, wX5_attempts_63, wX5_attempts_64, wX5_attempts_65, wX5_attempts_66, wX5_attempts_67, wX5_attempts_70, wX5_attempts_71, wX5_attempts_72, wX5_attempts_73, wX5_attempts_74, wX5_attempts_76, wX5_attempts_77, wX5_attempts_80, wX5_attempts_81, wX5_attempts_84, wX5_attempts_86, wX5_attempts_89, wX5_attempts_90, wX5_attempts_91, wX5_attempts_92, wX5_attempts_94, wX5_attempts_96, wX5_attempts_99, wX5_attempts_100, wX5_attempts_101, wX5_attempts_102, wX5_attempts_103, wX5_attempts_105, wX5_attempts_108, h1, h2, h3, h4, cs_0, cs_i, cs_r, Nat.reduceLT, oc_ hg hn w0, oc_ hg hn w5, oc_ hg hn (show 2 < 6 by decide), sc_ hg hn (show 2 < 6 by decide), sc_ hg hn (show 1 < 6 by decide), sc_ hg hn (show 3 < 6 by decide), aR_1, aR_v, hre, hrk, u2_r2, r2_s, r2_r2, inc_f, s_ hg he hc (show 0 < 9 by decide), s_ hg he hc (show 1 < 9 by decide), s_ hg he hc (show 2 < 9 by decide), s_ hg he hc (show 6 < 9 by decide), n0_1, if_false, snd_ hg he hc (show 0 < 16 by decide) (show 0 < 8 by decide) hR]
  · simp only [if_true] at hR ⊢
    simp only [wX5_attempts_0, wX5_attempts_1, wX5_attempts_2, wX5_attempts_3, wX5_attempts_6i, wX5_attempts_6r, wX5_attempts_6n, wX5_attempts_7, wX5_attempts_8, wX5_attempts_9, wX5_attempts_10, wX5_attempts_13i, wX5_attempts_13r, wX5_attempts_13n, wX5_attempts_15, wX5_attempts_16, wX5_attempts_17, wX5_attempts_18, wX5_attempts_19, wX5_attempts_20, wX5_attempts_21, wX5_attempts_24, wX5_attempts_25, wX5_attempts_26, wX5_attempts_29, wX5_attempts_30, wX5_attempts_31, wX5_attempts_32, wX5_attempts_33, wX5_attempts_36, wX5_attempts_37, wX5_attempts_38, wX5_attempts_39, wX5_attempts_40, wX5_attempts_43, wX5_attempts_44, wX5_attempts_47, wX5_attempts_49, wX5_attempts_50, wX5_attempts_51, wX5_attempts_52, wX5_attempts_53, wX5_attempts_54, wX5_attempts_55, wX5_attempts_56, wX5_attempts_57, wX5_attempts_58, wX5_attempts_59, wX5_attempts_62, wX5_attempts_63, wX5_attempts_64, wX5_attempts_65, wX5_attempts_66, wX5_attempts_67, wX5_attempts_70, wX5_attempts_71, wX5_attempts_72, wX5_attempts_73, wX5_attempts_74, wX5_attempts_76, wX5_attempts_77, wX5_attempts_80, wX5_attempts_81, wX5_attempts_84, wX5_attempts_86, wX5_attempts_89, wX5_attempts_90, wX5_attempts_91, wX5_attempts_92, wX5_attempts_94, wX5_attempts_96, wX5_attempts_99, wX5_attempts_100, wX5_attempts_101, wX5_attempts_102, wX5_attempts_103, wX5_attempts_105, wX5_attempts_108, h1, h2, h3, h4, cs_0, cs_i, cs_r, Nat.reduceLT, oc_ hg hn w0, oc_ hg hn w5, oc_ hg hn (show 2 < 6 by decide), sc_ hg hn (show 2 < 6 by decide), sc_ hg hn (show 1 < 6 by decide), sc_ hg hn (show 3 < 6 by decide), aR_1, aR_v, hre, hrk, u2_r2, r2_s, r2_r2, inc_f, s_ hg he hc (show 0 < 9 by decide), s_ hg he hc (show 1 < 9 by decide), s_ hg he hc (show 2 < 9 by decide), s_ hg he hc (show 6 < 9 by decide), if_true, snd_ hg he hc (show 0 < 16 by decide) (show 1 < 8 by decide) hR]
def pEnd (r : Nat → Int32) (n : Nat) (z : Int32) : Nat → Int32 := sC (sC r n 3 (nI 4)) n 4 z
theorem m_ends (hg : MG g mr) (hn : n < 40) : callT (d + 2) mX5_ends [.ref 292, .int (nI n), .int z] (g, r2 mi 293 r, ml, mr) = some (.inl none, g, r2 mi 293 (pEnd r n z), ml, mr) := by
  have h1 := hg.1
  rw [eX5_ends]
  simp only [wX5_ends_0, wX5_ends_1, wX5_ends_2, wX5_ends_3, wX5_ends_4, wX5_ends_7, wX5_ends_8, wX5_ends_9, wX5_ends_10, wX5_ends_11, wX5_ends_14, h1, cs_0, cs_i, cs_r, sc_ hg hn (show 3 < 6 by decide), sc_ hg hn (show 4 < 6 by decide), aR_v, pEnd]
def okN (z : Int32) : Prop := z = -1 ∨ ∃ n, n < 40 ∧ z = nI n
/-- the call of which an end is the origin, or -1 -/
def pOwn (r : Nat → Int32) (e c : Nat) : Int32 := if ¬ r (eI e c 1) = -1 ∧ r (cI (r (eI e c 1)).toNatClampNeg 0) = nI e then r (eI e c 1) else -1
theorem nI_m1 {n : Nat} (h : n < 2147483648) : (nI n = -1) = False := by
  rw [eq_iff_iff]
  constructor
  · intro h9
    have h8 := congrArg Int32.toInt h9
    rw [nI_toInt (by omega)] at h8
    have : (-1 : Int32).toInt = -1 := by decide
    rw [this] at h8
    omega
  · exact fun h => absurd h (fun h => h)
theorem m_own (hg : MG g mr) (he : e < 2) (hc : c < 12) (ho : okN (r (eI e c 1))) : callT (d + 3) mX5_ownCall [.ref 292, .int (nI e), .int (nI c)] (g, r2 mi 293 r, ml, mr) = some (.inl (some (.int (pOwn r e c))), g, r2 mi 293 r, ml, mr) := by
  have h1 := hg.1
  rw [eX5_ownCall]
  unfold pOwn
  rcases ho with ho | ⟨n, hn, ho⟩
  · simp only [wX5_ownCall_0, wX5_ownCall_1, wX5_ownCall_2, wX5_ownCall_3, wX5_ownCall_4, wX5_ownCall_7i, wX5_ownCall_7r, wX5_ownCall_7n, wX5_ownCall_8, wX5_ownCall_9, wX5_ownCall_10, wX5_ownCall_13, wX5_ownCall_14, wX5_ownCall_15, wX5_ownCall_16, wX5_ownCall_19, wX5_ownCall_20, wX5_ownCall_23, wX5_ownCall_24, wX5_ownCall_27, wX5_ownCall_28, h1, cs_0, o_ hg he hc (show 1 < 9 by decide), aR_1, ho, if_true, not_true, false_and, if_false]
  · have hb : n < 2147483648 := by omega
    simp only [wX5_ownCall_0, wX5_ownCall_1, wX5_ownCall_2, wX5_ownCall_3, wX5_ownCall_4, wX5_ownCall_7i, wX5_ownCall_7r, wX5_ownCall_7n, wX5_ownCall_8, wX5_ownCall_9, wX5_ownCall_10, wX5_ownCall_13, wX5_ownCall_14, wX5_ownCall_15, wX5_ownCall_16, wX5_ownCall_19, wX5_ownCall_20, wX5_ownCall_23, wX5_ownCall_24, wX5_ownCall_27, wX5_ownCall_28, h1, cs_0, o_ hg he hc (show 1 < 9 by decide), aR_1, ho, nI_m1 hb, if_false, oc_ hg hn (show 0 < 6 by decide), clampN hb, not_false_iff, true_and]
    split <;> simp only [wX5_ownCall_0, wX5_ownCall_1, wX5_ownCall_2, wX5_ownCall_3, wX5_ownCall_4, wX5_ownCall_7i, wX5_ownCall_7r, wX5_ownCall_7n, wX5_ownCall_8, wX5_ownCall_9, wX5_ownCall_10, wX5_ownCall_13, wX5_ownCall_14, wX5_ownCall_15, wX5_ownCall_16, wX5_ownCall_19, wX5_ownCall_20, wX5_ownCall_23, wX5_ownCall_24, wX5_ownCall_27, wX5_ownCall_28]
def pIdle (r : Nat → Int32) (e c : Nat) : Nat → Int32 := sE (sE (sE (sE (sE r e c 0 (nI 0)) e c 1 (-1)) e c 2 (nI 0)) e c 3 (nI 0)) e c 6 (nI 0)
theorem m_idles (hg : MG g mr) (he : e < 2) (hc : c < 12) : callT (d + 3) mX5_idles [.ref 292, .int (nI e), .int (nI c)] (g, r2 mi 293 r, ml, mr) = some (.inl none, g, r2 mi 293 (pIdle r e c), ml, mr) := by
  have h1 := hg.1
  rw [eX5_idles]
  simp only [wX5_idles_0, wX5_idles_1, wX5_idles_2, wX5_idles_3, wX5_idles_4, wX5_idles_5, wX5_idles_8, wX5_idles_9, wX5_idles_10, wX5_idles_11, wX5_idles_12, wX5_idles_13, wX5_idles_16, wX5_idles_17, wX5_idles_18, wX5_idles_19, wX5_idles_20, wX5_idles_21, wX5_idles_24, wX5_idles_25, wX5_idles_26, wX5_idles_27, wX5_idles_28, wX5_idles_29, wX5_idles_32, wX5_idles_33, wX5_idles_34, wX5_idles_35, wX5_idles_37, wX5_idles_38, wX5_idles_41, h1, cs_0, cs_i, cs_r, s_ hg he hc (show 0 < 9 by decide), s_ hg he hc (show 1 < 9 by decide), s_ hg he hc (show 2 < 9 by decide), s_ hg he hc (show 3 < 9 by decide), s_ hg he hc (show 6 < 9 by decide), aR_v, pIdle]
def pAw (r : Nat → Int32) (e c : Nat) (z z1 : Int32) : Nat → Int32 := sE (sE (sE (sE r e c 0 z) e c 1 (-1)) e c 2 z1) e c 6 (nI 0)
theorem m_awaits (hg : MG g mr) (he : e < 2) (hc : c < 12) : callT (d + 3) mX5_awaits [.ref 292, .int (nI e), .int (nI c), .int z, .int z1] (g, r2 mi 293 r, ml, mr) = some (.inl none, g, r2 mi 293 (pAw r e c z z1), ml, mr) := by
  have h1 := hg.1
  rw [eX5_awaits]
  simp only [wX5_awaits_0, wX5_awaits_1, wX5_awaits_2, wX5_awaits_3, wX5_awaits_4, wX5_awaits_5, wX5_awaits_8, wX5_awaits_9, wX5_awaits_10, wX5_awaits_11, wX5_awaits_12, wX5_awaits_13, wX5_awaits_16, wX5_awaits_17, wX5_awaits_18, wX5_awaits_19, wX5_awaits_20, wX5_awaits_22, wX5_awaits_25, wX5_awaits_26, wX5_awaits_27, wX5_awaits_28, wX5_awaits_30, wX5_awaits_31, wX5_awaits_34, h1, cs_0, cs_i, cs_r, s_ hg he hc (show 0 < 9 by decide), s_ hg he hc (show 1 < 9 by decide), s_ hg he hc (show 2 < 9 by decide), s_ hg he hc (show 6 < 9 by decide), aR_v, pAw]
def pEndO (r : Nat → Int32) (z z1 : Int32) : Nat → Int32 := if z = -1 then r else pEnd r z.toNatClampNeg z1
def pRel (r : Nat → Int32) (q : Nat → Int64) (e c v : Nat) : PS := (pAw (sE (sE (pEndO (pSend r q e c 6 v).1 (pOwn r e c) (nI v)) e c 3 (nI 0)) e c 7 (nI v)) e c (nI 6) (nI 10), (pSend r q e c 6 v).2)
theorem okN_own (ho : okN (r (eI e c 1))) : okN (pOwn r e c) := by
  unfold pOwn
  split
  · exact ho
  · exact Or.inl rfl
theorem m_rel (hg : MG g mr) (he : e < 2) (hc : c < 12) (hv : v < 8) (hr : Rm r 1) (ho : okN (r (eI e c 1))) : callT (d + 4) mX5_releases [.ref 292, .int (nI e), .int (nI c), .int (nI v)] (g, r2 mi 293 r, r2 ml 294 q, mr) = some (.inl none, g, r2 mi 293 (pRel r q e c v).1, r2 ml 294 (pRel r q e c v).2, mr) := by
  have h1 := hg.1
  rw [eX5_releases]
  unfold pRel pEndO
  rcases okN_own ho with h9 | ⟨n, hn, h9⟩
  · simp only [wX5_releases_0, wX5_releases_1, wX5_releases_2, wX5_releases_3, wX5_releases_6i, wX5_releases_6r, wX5_releases_6n, wX5_releases_8, wX5_releases_9, wX5_releases_10, wX5_releases_11, wX5_releases_13, wX5_releases_14, wX5_releases_17, wX5_releases_19, wX5_releases_20, wX5_releases_23, wX5_releases_24, wX5_releases_26, wX5_releases_27, wX5_releases_30, wX5_releases_31, wX5_releases_32, wX5_releases_33, wX5_releases_34, wX5_releases_35, wX5_releases_38, wX5_releases_39, wX5_releases_40, wX5_releases_41, wX5_releases_43, wX5_releases_44, wX5_releases_47, wX5_releases_48, wX5_releases_49, wX5_releases_50, wX5_releases_52, wX5_releases_54, wX5_releases_57, h1, cs_0, cs_i, cs_r, m_own hg he hc ho, aR_1, aR_v, snd_ hg he hc (show 6 < 16 by decide) hv hr, h9, if_true, s_ hg he hc (show 3 < 9 by decide), s_ hg he hc (show 7 < 9 by decide), m_awaits hg he hc]
  · have hb : n < 2147483648 := by omega
    simp only [wX5_releases_0, wX5_releases_1, wX5_releases_2, wX5_releases_3, wX5_releases_6i, wX5_releases_6r, wX5_releases_6n, wX5_releases_8, wX5_releases_9, wX5_releases_10, wX5_releases_11, wX5_releases_13, wX5_releases_14, wX5_releases_17, wX5_releases_19, wX5_releases_20, wX5_releases_23, wX5_releases_24, wX5_releases_26, wX5_releases_27, wX5_releases_30, wX5_releases_31, wX5_releases_32, wX5_releases_33, wX5_releases_34, wX5_releases_35, wX5_releases_38, wX5_releases_39, wX5_releases_40, wX5_releases_41, wX5_releases_43, wX5_releases_44, wX5_releases_47, wX5_releases_48, wX5_releases_49, wX5_releases_50, wX5_releases_52, wX5_releases_54, wX5_releases_57, h1, cs_0, cs_i, cs_r, m_own hg he hc ho, aR_1, aR_v, snd_ hg he hc (show 6 < 16 by decide) hv hr, h9, nI_m1 hb, if_false, clampN hb, m_ends hg hn, s_ hg he hc (show 3 < 9 by decide), s_ hg he hc (show 7 < 9 by decide), m_awaits hg he hc]
def pRst (r : Nat → Int32) (q : Nat → Int64) (e c : Nat) : PS := (pAw (sE (pSend (pEndO r (pOwn r e c) (nI 5)) q e c 12 0).1 e c 3 (nI 0)) e c (nI 7) (nI 20), (pSend (pEndO r (pOwn r e c) (nI 5)) q e c 12 0).2)
theorem pEnd_n {j : Nat} (hj : j < 240) : pEnd r n z j = r j := by unfold pEnd; rw [sC_n hj, sC_n hj]
theorem pEndO_n {j : Nat} (hj : j < 240) : pEndO r z z1 j = r j := by
  unfold pEndO
  split
  · rfl
  · exact pEnd_n hj
theorem m_rst (hg : MG g mr) (he : e < 2) (hc : c < 12) (hr : Rm r 1) (ho : okN (r (eI e c 1))) : callT (d + 4) mX5_resets [.ref 292, .int (nI e), .int (nI c)] (g, r2 mi 293 r, r2 ml 294 q, mr) = some (.inl none, g, r2 mi 293 (pRst r q e c).1, r2 ml 294 (pRst r q e c).2, mr) := by
  have h1 := hg.1
  have hR : Rm (pEndO r (pOwn r e c) (nI 5)) 1 := hr.mono (pEndO_n (by decide)) (Nat.le_refl 1)
  rw [eX5_resets]
  unfold pRst
  unfold pEndO at hR ⊢
  rcases okN_own ho with h9 | ⟨n, hn, h9⟩
  · simp only [h9, if_true] at hR
    simp only [wX5_resets_0, wX5_resets_1, wX5_resets_2, wX5_resets_3, wX5_resets_6i, wX5_resets_6r, wX5_resets_6n, wX5_resets_7, wX5_resets_8, wX5_resets_9, wX5_resets_12, wX5_resets_13, wX5_resets_14, wX5_resets_15, wX5_resets_18, wX5_resets_19, wX5_resets_20, wX5_resets_21, wX5_resets_23, wX5_resets_24, wX5_resets_27, wX5_resets_28, wX5_resets_29, wX5_resets_30, wX5_resets_31, wX5_resets_32, wX5_resets_35, wX5_resets_36, wX5_resets_37, wX5_resets_38, wX5_resets_40, wX5_resets_42, wX5_resets_45, h1, cs_0, cs_i, cs_r, m_own hg he hc ho, aR_1, aR_v, h9, if_true, snd_ hg he hc (show 12 < 16 by decide) (show 0 < 8 by decide) hR, s_ hg he hc (show 3 < 9 by decide), m_awaits hg he hc]
  · have hb : n < 2147483648 := by omega
    simp only [h9, nI_m1 hb, if_false, clampN hb] at hR
    simp only [wX5_resets_0, wX5_resets_1, wX5_resets_2, wX5_resets_3, wX5_resets_6i, wX5_resets_6r, wX5_resets_6n, wX5_resets_7, wX5_resets_8, wX5_resets_9, wX5_resets_12, wX5_resets_13, wX5_resets_14, wX5_resets_15, wX5_resets_18, wX5_resets_19, wX5_resets_20, wX5_resets_21, wX5_resets_23, wX5_resets_24, wX5_resets_27, wX5_resets_28, wX5_resets_29, wX5_resets_30, wX5_resets_31, wX5_resets_32, wX5_resets_35, wX5_resets_36, wX5_resets_37, wX5_resets_38, wX5_resets_40, wX5_resets_42, wX5_resets_45, h1, cs_0, cs_i, cs_r, m_own hg he hc ho, aR_1, aR_v, h9, nI_m1 hb, if_false, clampN hb, m_ends hg hn, snd_ hg he hc (show 12 < 16 by decide) (show 0 < 8 by decide) hR, s_ hg he hc (show 3 < 9 by decide), m_awaits hg he hc]
end MOD4
