/-! the law: one turn of its loop -/
def cst (xs : Nat → Int32) (w i : Nat) : Nat := if xs i &&& nI 31 = nI 10 then 1 else w
section LTRN
variable {X : Nat → Nat → Nat} {B B' T T' E K w n a b i j L pc K' : Nat} {S S' : Nat → PS} {P P' : PS} {x y z : Int32} {xs : Nat → Int32} {g : Gh} {mi : MI} {ml : ML} {mr : MR} {b5 b6 : Value}
theorem and31 : ∃ j, j < 32 ∧ z &&& nI 31 = nI j := by
  have h1 : (z &&& nI 31).toBitVec = z.toBitVec &&& 31#32 := rfl
  have h2 : (z &&& nI 31).toBitVec.toNat < 32 := by
    rw [h1, BitVec.toNat_and]
    exact Nat.lt_of_le_of_lt Nat.and_le_right (by decide)
  refine ⟨(z &&& nI 31).toBitVec.toNat, h2, ?_⟩
  have h3 : (nI (z &&& nI 31).toBitVec.toNat).toBitVec = (z &&& nI 31).toBitVec := by
    show BitVec.ofNat 32 _ = _
    rw [BitVec.ofNat_toNat, BitVec.setWidth_eq]
  exact (Int32.toBitVec_inj.mp h3).symm
theorem nI_sb (h : b ≤ a) : nI a - nI b = nI (a - b) := by
  have h1 : nI a = nI (a - b) + nI b := by rw [nI_add, Nat.sub_add_cancel h]
  rw [h1, Int32.add_sub_cancel]
def LTn (X : Nat → Nat → Nat) (B T L : Nat) (xs : Nat → Int32) (i E : Nat) (b5 b6 : Value) (g : Gh) (mi : MI) (ml : ML) (mr : MR) : Prop := ∃ K' S' P' a5 a6 g' mi' ml' mr', R 12 mL_law 23 [.ref 1, .ref 2, .ref 292, .ref 297, .int (nI i), b5, b6] [] g mi ml mr = R 12 mL_law 23 [.ref 1, .ref 2, .ref 292, .ref 297, .int (nI (i + 4)), a5, a6] [] g' mi' ml' mr' ∧ LLs L xs E K' S' P' g' mi' ml' mr' ∧ AJ X B T K' S' P' ∧ K' ≤ 3
theorem l_fin (h : LLs L xs n K S P g mi ml mr) (hi : i + 4 ≤ L) (hL : L ≤ 2048) (hz : xs i &&& nI 31 = nI j) (hl : LLb pc L xs i E K' S' P' b5 b6 g mi ml mr) (hpc : R 12 mL_law 39 [.ref 1, .ref 2, .ref 292, .ref 297, .int (nI i), b5, b6] [.int (nI j)] g mi ml mr = R 12 mL_law pc [.ref 1, .ref 2, .ref 292, .ref 297, .int (nI i), b5, b6] [] g mi ml mr) (hA : AJ X B T K' S' P') (hK : K' ≤ 3) : LTn X B T L xs i E b5 b6 g mi ml mr := by
  obtain ⟨-, -, ⟨s1, s2, s3⟩, -⟩ := h
  obtain ⟨a5, a6, g', mi', ml', mr', e, hl⟩ := hl
  refine ⟨K', S', P', a5, a6, g', mi', ml', mr', ?_, hl, hA, hK⟩
  have c1 : ¬ nI L - nI 4 < nI i := by
    rw [nI_sb (by omega)]
    exact nI_nlt (by omega) (by omega)
  have c2 : i < L := by omega
  have c3 : i < 2147483648 := by omega
  rw [wL_law_23]
  simp only [wL_law_25, wL_law_26, wL_law_26s, wL_law_27, wL_law_28, wL_law_29, wL_law_32, wL_law_33, wL_law_35, wL_law_35s, wL_law_36, wL_law_38, s1, s2, c1, if_false, c2, c3, s3, hz]
  rw [hpc, e, wL_law_1600r, wL_law_1603, nI_add]
theorem lv_time (h : LLs L xs (E + 1) K S P g mi ml mr) : LLb 1119 L xs i E K S P b5 b6 g mi ml mr := by
  obtain ⟨⟨pm, x1, x2, Ln, hT⟩, ⟨hg, hM⟩, ⟨s1, s2, s3⟩, o1, o2⟩ := h
  obtain ⟨r, q⟩ := P
  have e1 : callT 12 mX4_time [.ref 2] (g, mi, ml, mr) = some (.inl (some (.int (r 2))), g, mi, ml, mr) := k_time (d := 11) hT
  have hr : RC g mr mi ml (callT 12 mX5_time [.ref 292] (g, mi, ml, mr)) 0 (.int (r 2)) K S (r, q) := rcE hM (fun hM => m_time (d := 11) hg hM)
  obtain ⟨mi2, ml2, f1, f2, f3, f4⟩ := hr
  have k2 := hT.k2.1
  have k6 := hg.1
  refine ⟨b5, b6, g, mi2, ml2, mr, ?_, ls_end ⟨pm, x1, x2, Ln, hT.less⟩ hg f3 f4 s1 s2 s3 o1 o2⟩
  simp only [wL_law_1119, wL_law_1120, wL_law_1123, wL_law_1124, wL_law_1127, wL_law_1130, wL_law_1131, cs_0, cs_i, cs_r, cs_l, k2, e1, aR_1, k6, f1, lg_self, eq_self, if_true]
theorem lv_calls (h : LLs L xs (E + 1) K S P g mi ml mr) : LLb 1212 L xs i E K S P b5 b6 g mi ml mr := by
  obtain ⟨⟨pm, x1, x2, Ln, hT⟩, ⟨hg, hM⟩, ⟨s1, s2, s3⟩, o1, o2⟩ := h
  obtain ⟨r, q⟩ := P
  have e1 : callT 12 mX4_calls [.ref 2] (g, mi, ml, mr) = some (.inl (some (.int (r 5))), g, mi, ml, mr) := k_calls (d := 11) hT
  have hr : RC g mr mi ml (callT 12 mX5_calls [.ref 292] (g, mi, ml, mr)) 0 (.int (r 5)) K S (r, q) := rcE hM (fun hM => m_calls (d := 11) hg hM)
  obtain ⟨mi2, ml2, f1, f2, f3, f4⟩ := hr
  have k2 := hT.k2.1
  have k6 := hg.1
  refine ⟨b5, b6, g, mi2, ml2, mr, ?_, ls_end ⟨pm, x1, x2, Ln, hT.less⟩ hg f3 f4 s1 s2 s3 o1 o2⟩
  simp only [wL_law_1212, wL_law_1213, wL_law_1216, wL_law_1217, wL_law_1220, wL_law_1223, wL_law_1224, cs_0, cs_i, cs_r, cs_l, k2, e1, aR_1, k6, f1, lg_self, eq_self, if_true]
theorem lv_messages (h : LLs L xs (E + 1) K S P g mi ml mr) : LLb 1293 L xs i E K S P b5 b6 g mi ml mr := by
  obtain ⟨⟨pm, x1, x2, Ln, hT⟩, ⟨hg, hM⟩, ⟨s1, s2, s3⟩, o1, o2⟩ := h
  obtain ⟨r, q⟩ := P
  have e1 : callT 12 mX4_messages [.ref 2] (g, mi, ml, mr) = some (.inl (some (.int (r 11))), g, mi, ml, mr) := k_messages (d := 11) hT
  have hr : RC g mr mi ml (callT 12 mX5_messages [.ref 292] (g, mi, ml, mr)) 0 (.int (r 11)) K S (r, q) := rcE hM (fun hM => m_messages (d := 11) hg hM)
  obtain ⟨mi2, ml2, f1, f2, f3, f4⟩ := hr
  have k2 := hT.k2.1
  have k6 := hg.1
  refine ⟨b5, b6, g, mi2, ml2, mr, ?_, ls_end ⟨pm, x1, x2, Ln, hT.less⟩ hg f3 f4 s1 s2 s3 o1 o2⟩
  simp only [wL_law_1293, wL_law_1294, wL_law_1297, wL_law_1298, wL_law_1301, wL_law_1304, wL_law_1305, cs_0, cs_i, cs_r, cs_l, k2, e1, aR_1, k6, f1, lg_self, eq_self, if_true]
theorem lv_digest (h : LLs L xs (E + 1) K S P g mi ml mr) (hA : AJ X B T K S P) (hB : B ≤ 12012) : LLb 1586 L xs i E K S P b5 b6 g mi ml mr := by
  obtain ⟨⟨pm, x1, x2, Ln, hT⟩, ⟨hg, hM⟩, ⟨s1, s2, s3⟩, o1, o2⟩ := h
  obtain ⟨r, q⟩ := P
  obtain ⟨⟨N, t, D, ht, hJ⟩, -⟩ := hA
  have hJ : JI X B N t D r q := hJ
  obtain ⟨n, h11, hn32⟩ := hJ.rm hB
  have hn : n ≤ 12500 := by omega
  obtain ⟨C, hC1, hC, h0⟩ := hJ.cc
  have hF := hJ.fs
  have h5 := hF.2.2.2.2.1
  have hN := hF.2.2.2.1
  have e1 : callT 12 mX4_digest [.ref 2] (g, mi, ml, mr) = some (.inl (some (.long (dig r q K C N n))), g, mi, ml, mr) := k_digest (d := 7) hT hJ h0 hC h11 hn
  have hr : RC g mr mi ml (callT 12 mX5_digest [.ref 292] (g, mi, ml, mr)) 0 (.long (dig r q K C N n)) K S (r, q) := rcE hM (fun hM => m_digest (d := 7) hg hM h0 hC h5 hN h11 hn)
  obtain ⟨mi2, ml2, f1, f2, f3, f4⟩ := hr
  have k2 := hT.k2.1
  have k6 := hg.1
  refine ⟨b5, b6, g, mi2, ml2, mr, ?_, ls_end ⟨pm, x1, x2, Ln, hT.less⟩ hg f3 f4 s1 s2 s3 o1 o2⟩
  simp only [wL_law_1586, wL_law_1587, wL_law_1590, wL_law_1591, wL_law_1594, wL_law_1595, wL_law_1598, wL_law_1599, cs_0, cs_i, cs_r, cs_l, k2, e1, aR_1, k6, f1, lg_self, eq_self, if_true]
theorem l_none (h : LLs L xs (E + 1) K S P g mi ml mr) : LLb 1600 L xs i E K S P b5 b6 g mi ml mr := by
  obtain ⟨⟨pm, x1, x2, Ln, hT⟩, h2⟩ := h
  exact ⟨b5, b6, g, mi, ml, mr, rfl, ⟨pm, x1, x2, Ln, hT.less⟩, h2⟩
theorem l_turn (h : LLs L xs (E + 1) K S P g mi ml mr) (hA : AJ X B T K S P) (hK : K ≤ 3) (hi : i + 4 ≤ L) (hL : L ≤ 2048) (hB : B + cst xs w i ≤ 12012) (h6 : 12 ≤ w) (hX1 : ∀ e c, X e c ≤ 1) (hXb : xs i &&& nI 31 = nI 10 → ∀ e c, e < 2 → c < 12 → xs (i + 1) = nI e → xs (i + 2) = nI c → X e c = 1) (hW : ∀ e, e < 2 → 12 + sumN (X e) 12 ≤ w) (hT : T + 500 ≤ 300000) : LTn X (B + cst xs w i) (T + 500) L xs i E b5 b6 g mi ml mr := by
  obtain ⟨j, hj, hz⟩ := and31 (z := xs i)
  have h66 : 6 ≤ w := by omega
  by_cases h10 : j = 10
  · subst h10
    have hcw : cst xs w i = 1 := if_pos hz
    rw [hcw] at hB ⊢
    obtain ⟨code, v, K', S', P', hc, hw, hr, hA', hK'⟩ := ss_block (x := xs (i + 1)) (y := xs (i + 2)) (E := E) hA hK hB (hXb hz)
    exact l_fin h hi hL hz (lb_block h hi hL hc (hw g mi ml mr h.1 h.2.2.2.1 h.2.2.2.2) hr) wL_law_39_10 hA' hK'
  · have hcw : cst xs w i = w := if_neg (fun h9 => h10 ((nI_eq (by omega) (by decide)).mp (hz.symm.trans h9)))
    rw [hcw] at hB ⊢
    have hZ : ∃ z, (xs (i + 2) = nI 0 ∧ z = nI 0) ∨ (¬ xs (i + 2) = nI 0 ∧ z = nI 1) := by
      by_cases h9 : xs (i + 2) = nI 0
      · exact ⟨nI 0, Or.inl ⟨h9, rfl⟩⟩
      · exact ⟨nI 1, Or.inr ⟨h9, rfl⟩⟩
    obtain ⟨z, hzz⟩ := hZ
    have hz2 : z = nI 0 ∨ z = nI 1 := by
      rcases hzz with h9 | h9
      · exact Or.inl h9.2
      · exact Or.inr h9.2
    by_cases h25 : 25 ≤ j
    · have hd : R 12 mL_law 39 [.ref 1, .ref 2, .ref 292, .ref 297, .int (nI i), b5, b6] [.int (nI j)] g mi ml mr = R 12 mL_law 1600 [.ref 1, .ref 2, .ref 292, .ref 297, .int (nI i), b5, b6] [] g mi ml mr := wL_law_39d (by rw [nI_toInt (by omega)]; omega)
      exact l_fin h hi hL hz (l_none h) hd (hA.mono (by omega) (by omega)) hK
    · have hjj : j = 0 ∨ j = 1 ∨ j = 2 ∨ j = 3 ∨ j = 4 ∨ j = 5 ∨ j = 6 ∨ j = 7 ∨ j = 8 ∨ j = 9 ∨ j = 11 ∨ j = 12 ∨ j = 13 ∨ j = 14 ∨ j = 15 ∨ j = 16 ∨ j = 17 ∨ j = 18 ∨ j = 19 ∨ j = 20 ∨ j = 21 ∨ j = 22 ∨ j = 23 ∨ j = 24 := by omega
      clear hj h10 h25 hcw
      rcases hjj with rfl | rfl | rfl | rfl | rfl | rfl | rfl | rfl | rfl | rfl | rfl | rfl | rfl | rfl | rfl | rfl | rfl | rfl | rfl | rfl | rfl | rfl | rfl | rfl
      · obtain ⟨code, v, K', S', P', hc, hw, hr, hA', hK'⟩ := ss_setCircuits (z := xs (i + 1)) (E := E) hA hK hB
        exact l_fin h hi hL hz (lb_setCircuits h hi hL hc (hw g mi ml mr h.1 h.2.2.2.1 h.2.2.2.2) hr) wL_law_39_0 hA' hK'
      · obtain ⟨code, v, K', S', P', hc, hw, hr, hA', hK'⟩ := ss_setDelay (z := xs (i + 1)) (E := E) hA hK hB
        exact l_fin h hi hL hz (lb_setDelay h hi hL hc (hw g mi ml mr h.1 h.2.2.2.1 h.2.2.2.2) hr) wL_law_39_1 hA' hK'
      · obtain ⟨code, v, K', S', P', hv, hc, hw, hr, hA', hK'⟩ := ss_setFaulty (x := xs (i + 1)) (z := z) (E := E) hA hK hB hz2
        exact l_fin h hi hL hz (lb_setFaulty h hi hL hc hv hzz (hw g mi ml mr h.1 h.2.2.2.1 h.2.2.2.2) hr) wL_law_39_2 hA' hK'
      · obtain ⟨code, v, K', S', P', hc, hw, hr, hA', hK'⟩ := ss_loseNext (x := xs (i + 1)) (z := xs (i + 2)) (E := E) hA hK hB
        exact l_fin h hi hL hz (lb_loseNext h hi hL hc (hw g mi ml mr h.1 h.2.2.2.1 h.2.2.2.2) hr) wL_law_39_3 hA' hK'
      · obtain ⟨code, v, K', S', P', hc, hw, hr, hA', hK'⟩ := ss_call (x := xs (i + 1)) (z := z) (E := E) hA hK hB h66 hz2
        exact l_fin h hi hL hz (lb_call h hi hL hc hzz (hw g mi ml mr h.1 h.2.2.2.1 h.2.2.2.2) hr) wL_law_39_4 hA' hK'
      · obtain ⟨code, v, K', S', P', hc, hw, hr, hA', hK'⟩ := ss_accept (x := xs (i + 1)) (y := xs (i + 2)) (E := E) hA hK hB h66
        exact l_fin h hi hL hz (lb_accept h hi hL hc (hw g mi ml mr h.1 h.2.2.2.1 h.2.2.2.2) hr) wL_law_39_5 hA' hK'
      · obtain ⟨code, v, K', S', P', hc, hw, hr, hA', hK'⟩ := ss_answer (x := xs (i + 1)) (y := xs (i + 2)) (E := E) hA hK hB h66
        exact l_fin h hi hL hz (lb_answer h hi hL hc (hw g mi ml mr h.1 h.2.2.2.1 h.2.2.2.2) hr) wL_law_39_6 hA' hK'
      · obtain ⟨code, v, K', S', P', hc, hw, hr, hA', hK'⟩ := ss_suspend (x := xs (i + 1)) (y := xs (i + 2)) (E := E) hA hK hB h66
        exact l_fin h hi hL hz (lb_suspend h hi hL hc (hw g mi ml mr h.1 h.2.2.2.1 h.2.2.2.2) hr) wL_law_39_7 hA' hK'
      · obtain ⟨code, v, K', S', P', hc, hw, hr, hA', hK'⟩ := ss_resume (x := xs (i + 1)) (y := xs (i + 2)) (E := E) hA hK hB h66
        exact l_fin h hi hL hz (lb_resume h hi hL hc (hw g mi ml mr h.1 h.2.2.2.1 h.2.2.2.2) hr) wL_law_39_8 hA' hK'
      · obtain ⟨code, v, K', S', P', hc, hw, hr, hA', hK'⟩ := ss_release (x := xs (i + 1)) (y := xs (i + 2)) (E := E) hA hK hB h66
        exact l_fin h hi hL hz (lb_release h hi hL hc (hw g mi ml mr h.1 h.2.2.2.1 h.2.2.2.2) hr) wL_law_39_9 hA' hK'
      · obtain ⟨code, v, K', S', P', hc, hw, hr, hA', hK'⟩ := ss_unblock (x := xs (i + 1)) (y := xs (i + 2)) (E := E) hA hK hB h66
        exact l_fin h hi hL hz (lb_unblock h hi hL hc (hw g mi ml mr h.1 h.2.2.2.1 h.2.2.2.2) hr) wL_law_39_11 hA' hK'
      · obtain ⟨code, v, K', S', P', hc, hw, hr, hA', hK'⟩ := ss_reset (x := xs (i + 1)) (y := xs (i + 2)) (z := xs (i + 3)) (E := E) hA hK hB hW
        exact l_fin h hi hL hz (lb_reset h hi hL hc (hw g mi ml mr h.1 h.2.2.2.1 h.2.2.2.2) hr) wL_law_39_12 hA' hK'
      · obtain ⟨code, v, K', S', P', hc, hw, hr, hA', hK'⟩ := ss_tick (z := xs (i + 1)) (E := E) hA hK hB hX1 hT
        exact l_fin h hi hL hz (lb_tick h hi hL hc (hw g mi ml mr h.1 h.2.2.2.1 h.2.2.2.2) hr) wL_law_39_13 hA' hK'
      · exact l_fin h hi hL hz (lv_time h) wL_law_39_14 (hA.mono (by omega) (by omega)) hK
      · obtain ⟨code, v, K', S', P', hc, hw, hr, hA', hK'⟩ := ss_end (x := xs (i + 1)) (y := xs (i + 2)) (z := xs (i + 3)) (E := E) hA hK hB
        exact l_fin h hi hL hz (lb_end h hi hL hc (hw g mi ml mr h.1 h.2.2.2.1 h.2.2.2.2) hr) wL_law_39_15 hA' hK'
      · exact l_fin h hi hL hz (lv_calls h) wL_law_39_16 (hA.mono (by omega) (by omega)) hK
      · obtain ⟨code, v, K', S', P', hc, hw, hr, hA', hK'⟩ := ss_callValue (x := xs (i + 1)) (z := xs (i + 2)) (E := E) hA hK hB
        exact l_fin h hi hL hz (lb_callValue h hi hL hc (hw g mi ml mr h.1 h.2.2.2.1 h.2.2.2.2) hr) wL_law_39_17 hA' hK'
      · exact l_fin h hi hL hz (lv_messages h) wL_law_39_18 (hA.mono (by omega) (by omega)) hK
      · obtain ⟨code, v, K', S', P', hc, hw, hr, hA', hK'⟩ := ss_message (x := xs (i + 1)) (z := xs (i + 2)) (E := E) hA hK hB
        exact l_fin h hi hL hz (lb_message h hi hL hc (hw g mi ml mr h.1 h.2.2.2.1 h.2.2.2.2) hr) wL_law_39_19 hA' hK'
      · obtain ⟨code, v, K', S', P', hc, hw, hr, hA', hK'⟩ := ss_choice (x := xs (i + 1)) (E := E) hA hK hB
        exact l_fin h hi hL hz (lb_choice h hi hL hc (hw g mi ml mr h.1 h.2.2.2.1 h.2.2.2.2) hr) wL_law_39_20 hA' hK'
      · obtain ⟨code, v, K', S', P', hc, hw, hr, hA', hK'⟩ := ss_count (z := xs (i + 1)) (E := E) hA hK hB
        exact l_fin h hi hL hz (lb_count h hi hL hc (hw g mi ml mr h.1 h.2.2.2.1 h.2.2.2.2) hr) wL_law_39_21 hA' hK'
      · obtain ⟨code, v, K', S', P', hc, hw, hr, hA', hK'⟩ := ss_total (z := xs (i + 1)) (E := E) hA hK hB
        exact l_fin h hi hL hz (lb_total h hi hL hc (hw g mi ml mr h.1 h.2.2.2.1 h.2.2.2.2) hr) wL_law_39_22 hA' hK'
      · obtain ⟨code, v, K', S', P', hc, hw, hr, hA', hK'⟩ := ss_undo (E := E) hA hK hB
        exact l_fin h hi hL hz (lb_undo h hi hL hc (hw g mi ml mr h.1 h.2.2.2.1 h.2.2.2.2) hr) wL_law_39_23 hA' hK'
      · exact l_fin h hi hL hz (lv_digest h hA (by omega)) wL_law_39_24 (hA.mono (by omega) (by omega)) hK
end LTRN
