/-! the reference: its public calls, on -/
def pUn (r : Nat → Int32) (q : Nat → Int64) (s : PS) : PS := (cp r 0 480 s.1, cp q 0 (nM s.1) s.2)
section PUB3
variable {X : Nat → Nat → Nat} {h hb : Nat → Nat} {N t D e c w k v n j s a b B d C K L cnt : Nat} {r : Nat → Int32} {q : Nat → Int64} {z x y : Int32} {g : Gh} {mi mi' mi0 : MI} {ml ml' ml0 : ML} {mr : MR} {S : Nat → PS} {p : PS} {ret : Value}
/-- block, unblock -/
theorem m_blocks1 (hg : MG g mr) (hM : MS K S (r, q) (r2 mi 293 r) (r2 ml 294 q)) (hR : Rm r 32) (he : e < 2) (hc : c < 12) (hC : isC r (nI c)) (hk : k < 16) (hs : (s = 1 ∧ ¬ (nI 1 ≤ r (eI e c 4) ∧ r (eI e c 4) ≤ nI 2)) ∨ (s = 3 ∧ (nI 1 ≤ r (eI e c 4) ∧ r (eI e c 4) ≤ nI 2))) : RC g mr (r2 mi 293 r) (r2 ml 294 q) (callT (d + 4) mX5_blocks [.ref 292, .int (nI e), .int (nI c), .int (nI k), .int (nI s)] (g, r2 mi 293 r, r2 ml 294 q, mr)) 0 (.int (r (eI e c 4))) (svK K) (svS K S (r, q)) (pBk r q e c k s) := by
  have h1 := hg.1
  obtain ⟨mi', ml', e1, e2, e3, e4⟩ := m_rc0 (d := d + 1) hg hM hR
  have hR1 : Rm r 1 := hR.mono rfl (by decide)
  have hv : sE (pSend r q e c k 0).1 e c 8 (nI 10) (24 + 9 * (2 * c + e) + 4) = r (eI e c 4) := by
    show sE (pSend r q e c k 0).1 e c 8 (nI 10) (eI e c 4) = _
    rw [sE_w (by decide) (by decide) (by decide), pSend_e he eI_ge]
  have n31 : ¬ nI 3 = nI 1 := by decide
  rw [eX5_blocks]
  rcases hs with ⟨rfl, hs⟩ | ⟨rfl, hs⟩
  · simp only [wX5_blocks_0, wX5_blocks_1, wX5_blocks_2, wX5_blocks_3, wX5_blocks_6i, wX5_blocks_6r, wX5_blocks_6n, wX5_blocks_8, wX5_blocks_10, wX5_blocks_13, wX5_blocks_15, wX5_blocks_16, wX5_blocks_19, wX5_blocks_20, wX5_blocks_23, wX5_blocks_24, wX5_blocks_25, wX5_blocks_26, wX5_blocks_27, wX5_blocks_28, wX5_blocks_31, wX5_blocks_32, wX5_blocks_33, wX5_blocks_36, wX5_blocks_39, wX5_blocks_40, wX5_blocks_43, wX5_blocks_44i, wX5_blocks_44r, wX5_blocks_44n, wX5_blocks_46, wX5_blocks_47, wX5_blocks_49, wX5_blocks_52, wX5_blocks_53, wX5_blocks_56, wX5_blocks_58, wX5_blocks_61, wX5_blocks_62, wX5_blocks_65, wX5_blocks_66, wX5_blocks_69, wX5_blocks_72, wX5_blocks_73, wX5_blocks_74, wX5_blocks_75, wX5_blocks_76, wX5_blocks_77, wX5_blocks_78, wX5_blocks_79, wX5_blocks_82, wX5_blocks_83, wX5_blocks_84, wX5_blocks_85, wX5_blocks_87, wX5_blocks_89, wX5_blocks_92, wX5_blocks_93, wX5_blocks_94, wX5_blocks_95, wX5_blocks_98, wX5_blocks_99, wX5_blocks_100, wX5_blocks_102, wX5_blocks_105, h1, cs_0, cs_i, cs_r, isE_ hg, bE he hC, aR_1, aR_v, n1_0, if_false, o_ hg he hc (show 4 < 9 by decide), m_in, bI_f hs, e1, if_true, snd_ hg he hc hk (show 0 < 8 by decide) hR1, s_ hg he hc (show 8 < 9 by decide), m_endAt, nI_add, m_becomes hg (show 24 + 9 * (2 * c + e) + 4 < 480 by omega), r2_s, r2_r2, hv]
    exact rc e2 e3 e4
  · simp only [wX5_blocks_0, wX5_blocks_1, wX5_blocks_2, wX5_blocks_3, wX5_blocks_6i, wX5_blocks_6r, wX5_blocks_6n, wX5_blocks_8, wX5_blocks_10, wX5_blocks_13, wX5_blocks_15, wX5_blocks_16, wX5_blocks_19, wX5_blocks_20, wX5_blocks_23, wX5_blocks_24, wX5_blocks_25, wX5_blocks_26, wX5_blocks_27, wX5_blocks_28, wX5_blocks_31, wX5_blocks_32, wX5_blocks_33, wX5_blocks_36, wX5_blocks_39, wX5_blocks_40, wX5_blocks_43, wX5_blocks_44i, wX5_blocks_44r, wX5_blocks_44n, wX5_blocks_46, wX5_blocks_47, wX5_blocks_49, wX5_blocks_52, wX5_blocks_53, wX5_blocks_56, wX5_blocks_58, wX5_blocks_61, wX5_blocks_62, wX5_blocks_65, wX5_blocks_66, wX5_blocks_69, wX5_blocks_72, wX5_blocks_73, wX5_blocks_74, wX5_blocks_75, wX5_blocks_76, wX5_blocks_77, wX5_blocks_78, wX5_blocks_79, wX5_blocks_82, wX5_blocks_83, wX5_blocks_84, wX5_blocks_85, wX5_blocks_87, wX5_blocks_89, wX5_blocks_92, wX5_blocks_93, wX5_blocks_94, wX5_blocks_95, wX5_blocks_98, wX5_blocks_99, wX5_blocks_100, wX5_blocks_102, wX5_blocks_105, h1, cs_0, cs_i, cs_r, isE_ hg, bE he hC, aR_1, aR_v, n1_0, n0_1, n31, if_false, o_ hg he hc (show 4 < 9 by decide), m_in, bI_t hs, e1, if_true, snd_ hg he hc hk (show 0 < 8 by decide) hR1, s_ hg he hc (show 8 < 9 by decide), m_endAt, nI_add, m_becomes hg (show 24 + 9 * (2 * c + e) + 4 < 480 by omega), r2_s, r2_r2, hv]
    exact rc e2 e3 e4
theorem m_blocks0 (hg : MG g mr) (hM : MS K S (r, q) (r2 mi 293 r) (r2 ml 294 q)) (hx : ¬ (isX x ∧ isC r y)) : RC g mr (r2 mi 293 r) (r2 ml 294 q) (callT (d + 4) mX5_blocks [.ref 292, .int x, .int y, .int (nI k), .int (nI s)] (g, r2 mi 293 r, r2 ml 294 q, mr)) 1 (.int (nI 0)) K S (r, q) := by
  have h1 := hg.1
  obtain ⟨mi', e1, e2, e3, e4⟩ := m_rcx (d := d + 1) (k := 1) hg hM (by decide)
  rw [eX5_blocks]
  simp only [wX5_blocks_0, wX5_blocks_1, wX5_blocks_2, wX5_blocks_3, wX5_blocks_6i, wX5_blocks_6r, wX5_blocks_6n, wX5_blocks_8, wX5_blocks_10, wX5_blocks_13, wX5_blocks_15, wX5_blocks_16, wX5_blocks_19, wX5_blocks_20, wX5_blocks_23, wX5_blocks_24, wX5_blocks_25, wX5_blocks_26, wX5_blocks_27, wX5_blocks_28, wX5_blocks_31, wX5_blocks_32, wX5_blocks_33, wX5_blocks_36, wX5_blocks_39, wX5_blocks_40, wX5_blocks_43, wX5_blocks_44i, wX5_blocks_44r, wX5_blocks_44n, wX5_blocks_46, wX5_blocks_47, wX5_blocks_49, wX5_blocks_52, wX5_blocks_53, wX5_blocks_56, wX5_blocks_58, wX5_blocks_61, wX5_blocks_62, wX5_blocks_65, wX5_blocks_66, wX5_blocks_69, wX5_blocks_72, wX5_blocks_73, wX5_blocks_74, wX5_blocks_75, wX5_blocks_76, wX5_blocks_77, wX5_blocks_78, wX5_blocks_79, wX5_blocks_82, wX5_blocks_83, wX5_blocks_84, wX5_blocks_85, wX5_blocks_87, wX5_blocks_89, wX5_blocks_92, wX5_blocks_93, wX5_blocks_94, wX5_blocks_95, wX5_blocks_98, wX5_blocks_99, wX5_blocks_100, wX5_blocks_102, wX5_blocks_105, h1, cs_0, cs_i, cs_r, isE_ hg, bE0 hx, aR_1, n1_0, if_false, e1, if_true]
  exact rc e2 e3 e4
theorem m_blocks2 (hg : MG g mr) (hM : MS K S (r, q) (r2 mi 293 r) (r2 ml 294 q)) (he : e < 2) (hc : c < 12) (hC : isC r (nI c)) (hs : (s = 1 ∧ (nI 1 ≤ r (eI e c 4) ∧ r (eI e c 4) ≤ nI 2)) ∨ (s = 3 ∧ ¬ (nI 1 ≤ r (eI e c 4) ∧ r (eI e c 4) ≤ nI 2))) : RC g mr (r2 mi 293 r) (r2 ml 294 q) (callT (d + 4) mX5_blocks [.ref 292, .int (nI e), .int (nI c), .int (nI k), .int (nI s)] (g, r2 mi 293 r, r2 ml 294 q, mr)) 2 (.int (nI 0)) K S (r, q) := by
  have h1 := hg.1
  obtain ⟨mi', e1, e2, e3, e4⟩ := m_rcx (d := d + 1) (k := 2) hg hM (by decide)
  have n31 : ¬ nI 3 = nI 1 := by decide
  rw [eX5_blocks]
  rcases hs with ⟨rfl, hs⟩ | ⟨rfl, hs⟩
  · simp only [wX5_blocks_0, wX5_blocks_1, wX5_blocks_2, wX5_blocks_3, wX5_blocks_6i, wX5_blocks_6r, wX5_blocks_6n, wX5_blocks_8, wX5_blocks_10, wX5_blocks_13, wX5_blocks_15, wX5_blocks_16, wX5_blocks_19, wX5_blocks_20, wX5_blocks_23, wX5_blocks_24, wX5_blocks_25, wX5_blocks_26, wX5_blocks_27, wX5_blocks_28, wX5_blocks_31, wX5_blocks_32, wX5_blocks_33, wX5_blocks_36, wX5_blocks_39, wX5_blocks_40, wX5_blocks_43, wX5_blocks_44i, wX5_blocks_44r, wX5_blocks_44n, wX5_blocks_46, wX5_blocks_47, wX5_blocks_49, wX5_blocks_52, wX5_blocks_53, wX5_blocks_56, wX5_blocks_58, wX5_blocks_61, wX5_blocks_62, wX5_blocks_65, wX5_blocks_66, wX5_blocks_69, wX5_blocks_72, wX5_blocks_73, wX5_blocks_74, wX5_blocks_75, wX5_blocks_76, wX5_blocks_77, wX5_blocks_78, wX5_blocks_79, wX5_blocks_82, wX5_blocks_83, wX5_blocks_84, wX5_blocks_85, wX5_blocks_87, wX5_blocks_89, wX5_blocks_92, wX5_blocks_93, wX5_blocks_94, wX5_blocks_95, wX5_blocks_98, wX5_blocks_99, wX5_blocks_100, wX5_blocks_102, wX5_blocks_105, h1, cs_0, cs_i, cs_r, isE_ hg, bE he hC, aR_1, n1_0, if_false, o_ hg he hc (show 4 < 9 by decide), m_in, bI_t hs, e1, if_true]
    exact rc e2 e3 e4
  · simp only [wX5_blocks_0, wX5_blocks_1, wX5_blocks_2, wX5_blocks_3, wX5_blocks_6i, wX5_blocks_6r, wX5_blocks_6n, wX5_blocks_8, wX5_blocks_10, wX5_blocks_13, wX5_blocks_15, wX5_blocks_16, wX5_blocks_19, wX5_blocks_20, wX5_blocks_23, wX5_blocks_24, wX5_blocks_25, wX5_blocks_26, wX5_blocks_27, wX5_blocks_28, wX5_blocks_31, wX5_blocks_32, wX5_blocks_33, wX5_blocks_36, wX5_blocks_39, wX5_blocks_40, wX5_blocks_43, wX5_blocks_44i, wX5_blocks_44r, wX5_blocks_44n, wX5_blocks_46, wX5_blocks_47, wX5_blocks_49, wX5_blocks_52, wX5_blocks_53, wX5_blocks_56, wX5_blocks_58, wX5_blocks_61, wX5_blocks_62, wX5_blocks_65, wX5_blocks_66, wX5_blocks_69, wX5_blocks_72, wX5_blocks_73, wX5_blocks_74, wX5_blocks_75, wX5_blocks_76, wX5_blocks_77, wX5_blocks_78, wX5_blocks_79, wX5_blocks_82, wX5_blocks_83, wX5_blocks_84, wX5_blocks_85, wX5_blocks_87, wX5_blocks_89, wX5_blocks_92, wX5_blocks_93, wX5_blocks_94, wX5_blocks_95, wX5_blocks_98, wX5_blocks_99, wX5_blocks_100, wX5_blocks_102, wX5_blocks_105, h1, cs_0, cs_i, cs_r, isE_ hg, bE he hC, aR_1, n1_0, n0_1, n31, if_false, o_ hg he hc (show 4 < 9 by decide), m_in, bI_f hs, e1, if_true]
    exact rc e2 e3 e4
theorem m_block (hg : MG g mr) (hr : RC g mr mi0 ml0 (callT (d + 4) mX5_blocks [.ref 292, .int x, .int y, .int (nI 8), .int (nI 1)] (g, mi, ml, mr)) a (.int z) K S p) : RC g mr mi0 ml0 (callT (d + 5) mX5_block [.ref 292, .int x, .int y] (g, mi, ml, mr)) a (.int z) K S p := by
  have h1 := hg.1
  obtain ⟨mi', ml', e1, e2⟩ := hr
  rw [eX5_block]
  simp only [wX5_block_0, wX5_block_1, wX5_block_2, wX5_block_3, wX5_block_5, wX5_block_6, wX5_block_9, h1, cs_0, cs_i, cs_r, e1, aR_1]
  exact ⟨_, _, rfl, e2⟩
theorem m_unblock (hg : MG g mr) (hr : RC g mr mi0 ml0 (callT (d + 4) mX5_blocks [.ref 292, .int x, .int y, .int (nI 10), .int (nI 3)] (g, mi, ml, mr)) a (.int z) K S p) : RC g mr mi0 ml0 (callT (d + 5) mX5_unblock [.ref 292, .int x, .int y] (g, mi, ml, mr)) a (.int z) K S p := by
  have h1 := hg.1
  obtain ⟨mi', ml', e1, e2⟩ := hr
  rw [eX5_unblock]
  simp only [wX5_unblock_0, wX5_unblock_1, wX5_unblock_2, wX5_unblock_3, wX5_unblock_5, wX5_unblock_6, wX5_unblock_9, h1, cs_0, cs_i, cs_r, e1, aR_1]
  exact ⟨_, _, rfl, e2⟩
/-- reset -/
theorem Rm.rst {x : Nat} (h : Rm r (x + 1)) (he : e < 2) (hc : c < 12) : Rm (pRst r q e c).1 x := by
  unfold pRst pAw
  exact (((((h.pendO.send (Nat.le_refl _) he).sE he hc (by decide)).sE he hc (by decide)).sE he hc (by decide)).sE he hc (by decide)).sE he hc (by decide)
theorem rs_loop (hg : MG g mr) (he : e < 2) (hb : b < 12) : ∀ j c cnt r q, c + j = b + 1 → WF r → Rm r j → R (d + 4) mX5_reset 42 [.ref 292, .int (nI e), .int (nI a), .int (nI b), .int (nI cnt), .int (nI c)] [] g (r2 mi 293 r) (r2 ml 294 q) mr = some (.inl (some (.int (nI (cnt + nRs e j c (r, q))))), g, r2 mi 293 (pRs e j c (r, q)).1, r2 ml 294 (pRs e j c (r, q)).2, mr) := by
  have h1 := hg.1
  intro j
  induction j with
  | zero =>
    intro c cnt r q hc hw hR
    have c1 : ¬ nI c ≤ nI b := by rw [nI_leI (by omega) (by omega)]; omega
    have c2 : nI b < nI c := Int32.not_le.mp c1
    rw [wX5_reset_42]
    simp only [wX5_reset_0, wX5_reset_1, wX5_reset_2, wX5_reset_3, wX5_reset_4, wX5_reset_7, wX5_reset_10, wX5_reset_11, wX5_reset_12, wX5_reset_15, wX5_reset_18, wX5_reset_19, wX5_reset_20, wX5_reset_23, wX5_reset_24, wX5_reset_27, wX5_reset_28, wX5_reset_31, wX5_reset_34, wX5_reset_35, wX5_reset_36, wX5_reset_37i, wX5_reset_37r, wX5_reset_37n, wX5_reset_39, wX5_reset_40i, wX5_reset_40r, wX5_reset_40n, wX5_reset_44, wX5_reset_45, wX5_reset_48, wX5_reset_50, wX5_reset_51, wX5_reset_52, wX5_reset_54, wX5_reset_55, wX5_reset_58, wX5_reset_61, wX5_reset_62, wX5_reset_65, wX5_reset_66, wX5_reset_67i, wX5_reset_67r, wX5_reset_67n, wX5_reset_69, wX5_reset_70, wX5_reset_71, wX5_reset_73, wX5_reset_76i, wX5_reset_76r, wX5_reset_76n, wX5_reset_79, wX5_reset_82, wX5_reset_84, c1, c2, if_true, if_false]
    rfl
  | succ j ih =>
    intro c cnt r q hc hw hR
    have hc12 : c < 12 := by omega
    have c1 : nI c ≤ nI b := by rw [nI_leI (by omega) (by omega)]; omega
    have c2 : ¬ nI b < nI c := Int32.not_lt.mpr c1
    have hR1 : Rm r 1 := hR.mono rfl (by omega)
    have e1 := ih (c + 1) (cnt + (if r (eI e c 0) = nI 0 then 1 else 0)) _ (pRst r q e c).2 (by omega) (hw.rst (q := q) he hc12) (hR.rst (q := q) he hc12)
    have e2 : cnt + (if r (eI e c 0) = nI 0 then 1 else 0) + nRs e j (c + 1) ((pRst r q e c).1, (pRst r q e c).2) = cnt + nRs e (j + 1) c (r, q) := by
      show cnt + (if r (eI e c 0) = nI 0 then 1 else 0) + nRs e j (c + 1) (pRst r q e c) = cnt + ((if r (eI e c 0) = nI 0 then 1 else 0) + nRs e j (c + 1) (pRst r q e c))
      omega
    rw [e2] at e1
    rw [wX5_reset_42]
    by_cases p : r (eI e c 0) = nI 0
    · rw [if_pos p] at e1
      simp only [wX5_reset_0, wX5_reset_1, wX5_reset_2, wX5_reset_3, wX5_reset_4, wX5_reset_7, wX5_reset_10, wX5_reset_11, wX5_reset_12, wX5_reset_15, wX5_reset_18, wX5_reset_19, wX5_reset_20, wX5_reset_23, wX5_reset_24, wX5_reset_27, wX5_reset_28, wX5_reset_31, wX5_reset_34, wX5_reset_35, wX5_reset_36, wX5_reset_37i, wX5_reset_37r, wX5_reset_37n, wX5_reset_39, wX5_reset_40i, wX5_reset_40r, wX5_reset_40n, wX5_reset_44, wX5_reset_45, wX5_reset_48, wX5_reset_50, wX5_reset_51, wX5_reset_52, wX5_reset_54, wX5_reset_55, wX5_reset_58, wX5_reset_61, wX5_reset_62, wX5_reset_65, wX5_reset_66, wX5_reset_67i, wX5_reset_67r, wX5_reset_67n, wX5_reset_69, wX5_reset_70, wX5_reset_71, wX5_reset_73, wX5_reset_76i, wX5_reset_76r, wX5_reset_76n, wX5_reset_79, wX5_reset_82, wX5_reset_84, c1, c2, if_true, if_false, h1, cs_0, cs_i, cs_r, o_ hg he hc12 (show 0 < 9 by decide), p, aR_1, aR_v, nI_add, m_rst hg he hc12 hR1 (hw.ok he hc12)]
      exact e1
    · rw [if_neg p] at e1
      simp only [wX5_reset_0, wX5_reset_1, wX5_reset_2, wX5_reset_3, wX5_reset_4, wX5_reset_7, wX5_reset_10, wX5_reset_11, wX5_reset_12, wX5_reset_15, wX5_reset_18, wX5_reset_19, wX5_reset_20, wX5_reset_23, wX5_reset_24, wX5_reset_27, wX5_reset_28, wX5_reset_31, wX5_reset_34, wX5_reset_35, wX5_reset_36, wX5_reset_37i, wX5_reset_37r, wX5_reset_37n, wX5_reset_39, wX5_reset_40i, wX5_reset_40r, wX5_reset_40n, wX5_reset_44, wX5_reset_45, wX5_reset_48, wX5_reset_50, wX5_reset_51, wX5_reset_52, wX5_reset_54, wX5_reset_55, wX5_reset_58, wX5_reset_61, wX5_reset_62, wX5_reset_65, wX5_reset_66, wX5_reset_67i, wX5_reset_67r, wX5_reset_67n, wX5_reset_69, wX5_reset_70, wX5_reset_71, wX5_reset_73, wX5_reset_76i, wX5_reset_76r, wX5_reset_76n, wX5_reset_79, wX5_reset_82, wX5_reset_84, c1, c2, if_true, if_false, h1, cs_0, cs_i, cs_r, o_ hg he hc12 (show 0 < 9 by decide), p, aR_1, aR_v, nI_add, m_rst hg he hc12 hR1 (hw.ok he hc12)]
      exact e1
theorem m_reset1 (hg : MG g mr) (hM : MS K S (r, q) (r2 mi 293 r) (r2 ml 294 q)) (hR : Rm r 32) (hw : WF r) (he : e < 2) (hb : b < 12) (hab : a ≤ b) (hA : isC r (nI a)) (hB : isC r (nI b)) : RC g mr (r2 mi 293 r) (r2 ml 294 q) (callT (d + 5) mX5_reset [.ref 292, .int (nI e), .int (nI a), .int (nI b)] (g, r2 mi 293 r, r2 ml 294 q, mr)) 0 (.int (nI (nRs e (b + 1 - a) a (r, q)))) (svK K) (svS K S (r, q)) (pRs e (b + 1 - a) a (r, q)) := by
  have h1 := hg.1
  obtain ⟨mi', ml', e1, e2, e3, e4⟩ := m_rc0 (d := d + 2) hg hM hR
  have c1 : nI a ≤ nI b := by rw [nI_leI (by omega) (by omega)]; omega
  have c2 : ¬ nI b < nI a := Int32.not_lt.mpr c1
  have hB' : bI (nI 0 ≤ nI b ∧ nI b ≤ r 0 - nI 1) = nI 1 := bI_t hB
  have e5 := rs_loop (d := d) (mi := mi') (ml := ml') (a := a) hg he hb (b + 1 - a) a 0 r q (by omega) hw (hR.mono rfl (by omega))
  rw [Nat.zero_add] at e5
  rw [eX5_reset]
  simp only [wX5_reset_0, wX5_reset_1, wX5_reset_2, wX5_reset_3, wX5_reset_4, wX5_reset_7, wX5_reset_10, wX5_reset_11, wX5_reset_12, wX5_reset_15, wX5_reset_18, wX5_reset_19, wX5_reset_20, wX5_reset_23, wX5_reset_24, wX5_reset_27, wX5_reset_28, wX5_reset_31, wX5_reset_34, wX5_reset_35, wX5_reset_36, wX5_reset_37i, wX5_reset_37r, wX5_reset_37n, wX5_reset_39, wX5_reset_40i, wX5_reset_40r, wX5_reset_40n, wX5_reset_44, wX5_reset_45, wX5_reset_48, wX5_reset_50, wX5_reset_51, wX5_reset_52, wX5_reset_54, wX5_reset_55, wX5_reset_58, wX5_reset_61, wX5_reset_62, wX5_reset_65, wX5_reset_66, wX5_reset_67i, wX5_reset_67r, wX5_reset_67n, wX5_reset_69, wX5_reset_70, wX5_reset_71, wX5_reset_73, wX5_reset_76i, wX5_reset_76r, wX5_reset_76n, wX5_reset_79, wX5_reset_82, wX5_reset_84, h1, cs_0, cs_i, cs_r, isE_ hg, m_isCi hg, r2_s, bE he hA, hB', aR_1, aR_v, n1_0, if_false, c1, c2, e1, if_true, e5]
  exact rc e2 e3 e4
theorem m_reset0 (hg : MG g mr) (hM : MS K S (r, q) (r2 mi 293 r) (r2 ml 294 q)) (hx : ¬ ((isX x ∧ isC r y) ∧ isC r z ∧ y ≤ z)) : RC g mr (r2 mi 293 r) (r2 ml 294 q) (callT (d + 5) mX5_reset [.ref 292, .int x, .int y, .int z] (g, r2 mi 293 r, r2 ml 294 q, mr)) 1 (.int (nI 0)) K S (r, q) := by
  have h1 := hg.1
  obtain ⟨mi', e1, e2, e3, e4⟩ := m_rcx (d := d + 2) (k := 1) hg hM (by decide)
  rw [eX5_reset]
  by_cases p1 : isX x ∧ isC r y
  · have p1' : bI ((nI 0 ≤ x ∧ x ≤ nI 1) ∧ nI 0 ≤ y ∧ y ≤ r 0 - nI 1) = nI 1 := bI_t p1
    by_cases p2 : isC r z
    · have p2' : bI (nI 0 ≤ z ∧ z ≤ r 0 - nI 1) = nI 1 := bI_t p2
      have p3 : ¬ y ≤ z := fun h9 => hx ⟨p1, p2, h9⟩
      have p3' : z < y := Int32.not_le.mp p3
      simp only [wX5_reset_0, wX5_reset_1, wX5_reset_2, wX5_reset_3, wX5_reset_4, wX5_reset_7, wX5_reset_10, wX5_reset_11, wX5_reset_12, wX5_reset_15, wX5_reset_18, wX5_reset_19, wX5_reset_20, wX5_reset_23, wX5_reset_24, wX5_reset_27, wX5_reset_28, wX5_reset_31, wX5_reset_34, wX5_reset_35, wX5_reset_36, wX5_reset_37i, wX5_reset_37r, wX5_reset_37n, wX5_reset_39, wX5_reset_40i, wX5_reset_40r, wX5_reset_40n, wX5_reset_44, wX5_reset_45, wX5_reset_48, wX5_reset_50, wX5_reset_51, wX5_reset_52, wX5_reset_54, wX5_reset_55, wX5_reset_58, wX5_reset_61, wX5_reset_62, wX5_reset_65, wX5_reset_66, wX5_reset_67i, wX5_reset_67r, wX5_reset_67n, wX5_reset_69, wX5_reset_70, wX5_reset_71, wX5_reset_73, wX5_reset_76i, wX5_reset_76r, wX5_reset_76n, wX5_reset_79, wX5_reset_82, wX5_reset_84, h1, cs_0, cs_i, cs_r, isE_ hg, m_isCi hg, r2_s, p1', p2', p3, p3', aR_1, n1_0, if_false, e1, if_true]
      exact rc e2 e3 e4
    · have p2' : bI (nI 0 ≤ z ∧ z ≤ r 0 - nI 1) = nI 0 := bI_f p2
      simp only [wX5_reset_0, wX5_reset_1, wX5_reset_2, wX5_reset_3, wX5_reset_4, wX5_reset_7, wX5_reset_10, wX5_reset_11, wX5_reset_12, wX5_reset_15, wX5_reset_18, wX5_reset_19, wX5_reset_20, wX5_reset_23, wX5_reset_24, wX5_reset_27, wX5_reset_28, wX5_reset_31, wX5_reset_34, wX5_reset_35, wX5_reset_36, wX5_reset_37i, wX5_reset_37r, wX5_reset_37n, wX5_reset_39, wX5_reset_40i, wX5_reset_40r, wX5_reset_40n, wX5_reset_44, wX5_reset_45, wX5_reset_48, wX5_reset_50, wX5_reset_51, wX5_reset_52, wX5_reset_54, wX5_reset_55, wX5_reset_58, wX5_reset_61, wX5_reset_62, wX5_reset_65, wX5_reset_66, wX5_reset_67i, wX5_reset_67r, wX5_reset_67n, wX5_reset_69, wX5_reset_70, wX5_reset_71, wX5_reset_73, wX5_reset_76i, wX5_reset_76r, wX5_reset_76n, wX5_reset_79, wX5_reset_82, wX5_reset_84, h1, cs_0, cs_i, cs_r, isE_ hg, m_isCi hg, r2_s, p1', p2', aR_1, n1_0, if_false, e1, if_true]
      exact rc e2 e3 e4
  · simp only [wX5_reset_0, wX5_reset_1, wX5_reset_2, wX5_reset_3, wX5_reset_4, wX5_reset_7, wX5_reset_10, wX5_reset_11, wX5_reset_12, wX5_reset_15, wX5_reset_18, wX5_reset_19, wX5_reset_20, wX5_reset_23, wX5_reset_24, wX5_reset_27, wX5_reset_28, wX5_reset_31, wX5_reset_34, wX5_reset_35, wX5_reset_36, wX5_reset_37i, wX5_reset_37r, wX5_reset_37n, wX5_reset_39, wX5_reset_40i, wX5_reset_40r, wX5_reset_40n, wX5_reset_44, wX5_reset_45, wX5_reset_48, wX5_reset_50, wX5_reset_51, wX5_reset_52, wX5_reset_54, wX5_reset_55, wX5_reset_58, wX5_reset_61, wX5_reset_62, wX5_reset_65, wX5_reset_66, wX5_reset_67i, wX5_reset_67r, wX5_reset_67n, wX5_reset_69, wX5_reset_70, wX5_reset_71, wX5_reset_73, wX5_reset_76i, wX5_reset_76r, wX5_reset_76n, wX5_reset_79, wX5_reset_82, wX5_reset_84, h1, cs_0, cs_i, cs_r, isE_ hg, bE0 p1, aR_1, n1_0, if_false, e1, if_true]
    exact rc e2 e3 e4
/-- tick -/
theorem tk_loop (hg : MG g mr) (hX : ∀ e c, X e c ≤ 1) (hB : B ≤ 12012) (hn : n ≤ 500) : ∀ j k cnt t r q, k + j = n → JI X B N t D r q → t + j ≤ 300000 → R (d + 9) mX5_tick 29 [.ref 292, .int (nI n), .int (nI cnt), .int (nI k)] [] g (r2 mi 293 r) (r2 ml 294 q) mr = some (.inl (some (.int (nI (cnt + nTkI j (r, q))))), g, r2 mi 293 (pTkI j (r, q)).1, r2 ml 294 (pTkI j (r, q)).2, mr) := by
  have h1 := hg.1
  intro j
  induction j with
  | zero =>
    intro k cnt t r q hk hJ ht
    have : k = n := by omega
    subst this
    rw [wX5_tick_29]
    simp only [wX5_tick_0, wX5_tick_1, wX5_tick_2, wX5_tick_3, wX5_tick_6, wX5_tick_9, wX5_tick_12, wX5_tick_13, wX5_tick_16, wX5_tick_17, wX5_tick_20, wX5_tick_23, wX5_tick_24, wX5_tick_25, wX5_tick_26i, wX5_tick_26r, wX5_tick_26n, wX5_tick_27, wX5_tick_28i, wX5_tick_28r, wX5_tick_28n, wX5_tick_30, wX5_tick_31, wX5_tick_34, wX5_tick_35, wX5_tick_36, wX5_tick_39, wX5_tick_40i, wX5_tick_40r, wX5_tick_40n, wX5_tick_41i, wX5_tick_41r, wX5_tick_41n, wX5_tick_44, wX5_tick_47, wX5_tick_48, Int32.le_refl, if_true]
    rfl
  | succ j ih =>
    intro k cnt t r q hk hJ ht
    have c1 : ¬ nI n ≤ nI k := by rw [nI_leI (by omega) (by omega)]; omega
    have e1 := ih (k + 1) (cnt + pJ r q) (t + 1) _ _ (by omega) (hJ.tk hX hB (by omega)) (by omega)
    rw [show cnt + pJ r q + nTkI j ((pTk (r, q)).1, (pTk (r, q)).2) = cnt + nTkI (j + 1) (r, q) by show cnt + pJ r q + nTkI j (pTk (r, q)) = cnt + (pJ r q + nTkI j (pTk (r, q))); omega] at e1
    rw [wX5_tick_29]
    simp only [wX5_tick_0, wX5_tick_1, wX5_tick_2, wX5_tick_3, wX5_tick_6, wX5_tick_9, wX5_tick_12, wX5_tick_13, wX5_tick_16, wX5_tick_17, wX5_tick_20, wX5_tick_23, wX5_tick_24, wX5_tick_25, wX5_tick_26i, wX5_tick_26r, wX5_tick_26n, wX5_tick_27, wX5_tick_28i, wX5_tick_28r, wX5_tick_28n, wX5_tick_30, wX5_tick_31, wX5_tick_34, wX5_tick_35, wX5_tick_36, wX5_tick_39, wX5_tick_40i, wX5_tick_40r, wX5_tick_40n, wX5_tick_41i, wX5_tick_41r, wX5_tick_41n, wX5_tick_44, wX5_tick_47, wX5_tick_48, c1, if_false, h1, cs_0, cs_i, cs_r, m_tk hg hJ hX hB (show t < 300000 by omega), aR_1, nI_add]
    exact e1
theorem m_tick1 (hg : MG g mr) (hM : MS K S (r, q) (r2 mi 293 r) (r2 ml 294 q)) (hJ : JI X B N t D r q) (hX : ∀ e c, X e c ≤ 1) (hB : B ≤ 12012) (h0 : 1 ≤ n) (hn : n ≤ 500) (ht : t + n ≤ 300000) : RC g mr (r2 mi 293 r) (r2 ml 294 q) (callT (d + 10) mX5_tick [.ref 292, .int (nI n)] (g, r2 mi 293 r, r2 ml 294 q, mr)) 0 (.int (nI (nTkI n (r, q)))) (svK K) (svS K S (r, q)) (pTkI n (r, q)) := by
  have h1 := hg.1
  obtain ⟨mi', ml', e1, e2, e3, e4⟩ := m_rc0 (d := d + 7) hg hM (hJ.rm hB)
  have hz : bI (nI 1 ≤ nI n ∧ nI n ≤ nI 500) = nI 1 := bI_t ⟨nI_le (by omega) (by omega), nI_le (by omega) (by omega)⟩
  have e5 := tk_loop (d := d) (mi := mi') (ml := ml') hg hX hB hn n 0 0 t r q (by omega) hJ ht
  rw [Nat.zero_add] at e5
  rw [eX5_tick]
  simp only [wX5_tick_0, wX5_tick_1, wX5_tick_2, wX5_tick_3, wX5_tick_6, wX5_tick_9, wX5_tick_12, wX5_tick_13, wX5_tick_16, wX5_tick_17, wX5_tick_20, wX5_tick_23, wX5_tick_24, wX5_tick_25, wX5_tick_26i, wX5_tick_26r, wX5_tick_26n, wX5_tick_27, wX5_tick_28i, wX5_tick_28r, wX5_tick_28n, wX5_tick_30, wX5_tick_31, wX5_tick_34, wX5_tick_35, wX5_tick_36, wX5_tick_39, wX5_tick_40i, wX5_tick_40r, wX5_tick_40n, wX5_tick_41i, wX5_tick_41r, wX5_tick_41n, wX5_tick_44, wX5_tick_47, wX5_tick_48, h1, cs_0, cs_i, cs_r, m_in, hz, aR_1, n1_0, if_false, e1, if_true, e5]
  exact rc e2 e3 e4
theorem m_tick0 (hg : MG g mr) (hM : MS K S (r, q) (r2 mi 293 r) (r2 ml 294 q)) (hz : ¬ (nI 1 ≤ z ∧ z ≤ nI 500)) : RC g mr (r2 mi 293 r) (r2 ml 294 q) (callT (d + 10) mX5_tick [.ref 292, .int z] (g, r2 mi 293 r, r2 ml 294 q, mr)) 1 (.int (nI 0)) K S (r, q) := by
  have h1 := hg.1
  obtain ⟨mi', e1, e2, e3, e4⟩ := m_rcx (d := d + 7) (k := 1) hg hM (by decide)
  rw [eX5_tick]
  simp only [wX5_tick_0, wX5_tick_1, wX5_tick_2, wX5_tick_3, wX5_tick_6, wX5_tick_9, wX5_tick_12, wX5_tick_13, wX5_tick_16, wX5_tick_17, wX5_tick_20, wX5_tick_23, wX5_tick_24, wX5_tick_25, wX5_tick_26i, wX5_tick_26r, wX5_tick_26n, wX5_tick_27, wX5_tick_28i, wX5_tick_28r, wX5_tick_28n, wX5_tick_30, wX5_tick_31, wX5_tick_34, wX5_tick_35, wX5_tick_36, wX5_tick_39, wX5_tick_40i, wX5_tick_40r, wX5_tick_40n, wX5_tick_41i, wX5_tick_41r, wX5_tick_41n, wX5_tick_44, wX5_tick_47, wX5_tick_48, h1, cs_0, cs_i, cs_r, m_in, bI_f hz, aR_1, n1_0, if_false, e1, if_true]
  exact rc e2 e3 e4
/-- values -/
theorem MS.thr (hM : MS K S p mi ml) : MS K S p (u2 mi 292 5 z) ml := by
  obtain ⟨a1, a2, ⟨a3, a4⟩, a5⟩ := hM
  refine ⟨?_, a2, ⟨?_, a4⟩, ?_⟩
  · rw [u2_row (by decide)]; exact a1
  · rw [u2_oth (by decide)]; exact a3
  · rw [u2_row (by decide)]; exact a5
theorem FM.thr : FM mi ml (u2 mi 292 5 z) ml := ⟨fun a ha => u2_row (by omega), fun _ _ => rfl⟩
theorem rcv (hM : MS K S p mi ml) : RC g mr mi ml (some (.inl (some ret), g, u2 mi 292 5 (nI s), ml, mr)) s ret K S p := ⟨_, _, rfl, u2_at, hM.thr, FM.thr⟩
theorem u293 : u2 (r2 mi 293 r) 292 5 z 293 = r := by rw [u2_row (by decide), r2_s]
theorem m_time (hg : MG g mr) (hM : MS K S (r, q) (r2 mi 293 r) (r2 ml 294 q)) : RC g mr (r2 mi 293 r) (r2 ml 294 q) (callT (d + 1) mX5_time [.ref 292] (g, r2 mi 293 r, r2 ml 294 q, mr)) 0 (.int (r 2)) K S (r, q) := by
  obtain ⟨h1, h2, h3, -, -, -, -, -, -, h4, -⟩ := id hg
  rw [eX5_time]
  simp only [wX5_time_0, wX5_time_1, wX5_time_2, wX5_time_5, wX5_time_6, wX5_time_9, wX5_time_10, wX5_time_11, h1, h2, h3, h4, Nat.reduceLT, u293, true_or, or_true]
  exact rcv hM
theorem m_calls (hg : MG g mr) (hM : MS K S (r, q) (r2 mi 293 r) (r2 ml 294 q)) : RC g mr (r2 mi 293 r) (r2 ml 294 q) (callT (d + 1) mX5_calls [.ref 292] (g, r2 mi 293 r, r2 ml 294 q, mr)) 0 (.int (r 5)) K S (r, q) := by
  obtain ⟨h1, h2, h3, -, -, -, -, -, -, h4, -⟩ := id hg
  rw [eX5_calls]
  simp only [wX5_calls_0, wX5_calls_1, wX5_calls_2, wX5_calls_5, wX5_calls_6, wX5_calls_9, wX5_calls_10, wX5_calls_11, h1, h2, h3, h4, Nat.reduceLT, u293, true_or, or_true]
  exact rcv hM
theorem m_messages (hg : MG g mr) (hM : MS K S (r, q) (r2 mi 293 r) (r2 ml 294 q)) : RC g mr (r2 mi 293 r) (r2 ml 294 q) (callT (d + 1) mX5_messages [.ref 292] (g, r2 mi 293 r, r2 ml 294 q, mr)) 0 (.int (r 11)) K S (r, q) := by
  obtain ⟨h1, h2, h3, -, -, -, -, -, -, h4, -⟩ := id hg
  rw [eX5_messages]
  simp only [wX5_messages_0, wX5_messages_1, wX5_messages_2, wX5_messages_5, wX5_messages_6, wX5_messages_9, wX5_messages_11, wX5_messages_12, h1, h2, h3, h4, Nat.reduceLT, u293, true_or, or_true]
  exact rcv hM
theorem bz : bI (¬ nI 0 = nI 0) = nI 0 := rfl
theorem b1z : bI (¬ nI 1 = nI 0) = nI 1 := rfl
theorem b2z : bI (¬ nI 2 = nI 0) = nI 1 := rfl
theorem m_total1 (hg : MG g mr) (hM : MS K S (r, q) (r2 mi 293 r) (r2 ml 294 q)) (hw : w < 5) : RC g mr (r2 mi 293 r) (r2 ml 294 q) (callT (d + 2) mX5_total [.ref 292, .int (nI w)] (g, r2 mi 293 r, r2 ml 294 q, mr)) 0 (.int (r (6 + w))) K S (r, q) := by
  obtain ⟨h1, h2, h3, -, -, -, -, -, -, h4, -⟩ := id hg
  have b1 : 6 + w < 480 := by omega
  have b2 : 6 + w < 2147483648 := by omega
  have hz : bI (nI 0 ≤ nI w ∧ nI w ≤ nI 4) = nI 1 := bI_t ⟨nI_le (by omega) (by omega), nI_le (by omega) (by omega)⟩
  rw [eX5_total]
  simp only [wX5_total_0, wX5_total_1, wX5_total_2, wX5_total_3, wX5_total_4, wX5_total_7, wX5_total_10, wX5_total_11, wX5_total_14, wX5_total_15, wX5_total_18, wX5_total_21, wX5_total_22, wX5_total_25, wX5_total_26, wX5_total_29, wX5_total_31, wX5_total_32, wX5_total_33, wX5_total_34, h1, h2, h3, h4, b1, b2, cs_0, cs_i, cs_r, m_in, hz, aR_1, n1_0, if_false, m_refuses hg, bz, if_true, u293, nI_add]
  exact rcv hM
theorem m_total0 (hg : MG g mr) (hM : MS K S (r, q) (r2 mi 293 r) (r2 ml 294 q)) (hz : ¬ (nI 0 ≤ z ∧ z ≤ nI 4)) : RC g mr (r2 mi 293 r) (r2 ml 294 q) (callT (d + 2) mX5_total [.ref 292, .int z] (g, r2 mi 293 r, r2 ml 294 q, mr)) 1 (.int (nI 0)) K S (r, q) := by
  have h1 := hg.1
  rw [eX5_total]
  simp only [wX5_total_0, wX5_total_1, wX5_total_2, wX5_total_3, wX5_total_4, wX5_total_7, wX5_total_10, wX5_total_11, wX5_total_14, wX5_total_15, wX5_total_18, wX5_total_21, wX5_total_22, wX5_total_25, wX5_total_26, wX5_total_29, wX5_total_31, wX5_total_32, wX5_total_33, wX5_total_34, h1, cs_0, cs_i, cs_r, m_in, bI_f hz, aR_1, n1_0, if_false, m_refuses hg, b1z, if_true]
  exact rcv hM
theorem m_end1 (hg : MG g mr) (hM : MS K S (r, q) (r2 mi 293 r) (r2 ml 294 q)) (he : e < 2) (hc : c < 12) (hC : isC r (nI c)) (hw : w < 7) : RC g mr (r2 mi 293 r) (r2 ml 294 q) (callT (d + 4) mX5_end [.ref 292, .int (nI e), .int (nI c), .int (nI w)] (g, r2 mi 293 r, r2 ml 294 q, mr)) 0 (.int (r (eI e c w))) K S (r, q) := by
  have h1 := hg.1
  have hz : bI (nI 0 ≤ nI w ∧ nI w ≤ nI 6) = nI 1 := bI_t ⟨nI_le (by omega) (by omega), nI_le (by omega) (by omega)⟩
  rw [eX5_end]
  simp only [wX5_end_0, wX5_end_1, wX5_end_2, wX5_end_3, wX5_end_4, wX5_end_7, wX5_end_10, wX5_end_11, wX5_end_14, wX5_end_15, wX5_end_16, wX5_end_18, wX5_end_21, wX5_end_24, wX5_end_25, wX5_end_28, wX5_end_29, wX5_end_32, wX5_end_35, wX5_end_36, wX5_end_39, wX5_end_40, wX5_end_41, wX5_end_42, wX5_end_43, wX5_end_46, h1, cs_0, cs_i, cs_r, isE_ hg, bE he hC, m_in, hz, aR_1, n1_0, if_false, m_refuses hg, bz, if_true, mo hg he hc (show w < 9 by omega), u293]
  exact rcv hM
theorem m_end0 (hg : MG g mr) (hM : MS K S (r, q) (r2 mi 293 r) (r2 ml 294 q)) (hx : ¬ (isX x ∧ isC r y)) : RC g mr (r2 mi 293 r) (r2 ml 294 q) (callT (d + 4) mX5_end [.ref 292, .int x, .int y, .int z] (g, r2 mi 293 r, r2 ml 294 q, mr)) 1 (.int (nI 0)) K S (r, q) := by
  have h1 := hg.1
  rw [eX5_end]
  simp only [wX5_end_0, wX5_end_1, wX5_end_2, wX5_end_3, wX5_end_4, wX5_end_7, wX5_end_10, wX5_end_11, wX5_end_14, wX5_end_15, wX5_end_16, wX5_end_18, wX5_end_21, wX5_end_24, wX5_end_25, wX5_end_28, wX5_end_29, wX5_end_32, wX5_end_35, wX5_end_36, wX5_end_39, wX5_end_40, wX5_end_41, wX5_end_42, wX5_end_43, wX5_end_46, h1, cs_0, cs_i, cs_r, isE_ hg, bE0 hx, aR_1, n1_0, if_false, m_refuses hg, b1z, if_true]
  exact rcv hM
theorem m_end2 (hg : MG g mr) (hM : MS K S (r, q) (r2 mi 293 r) (r2 ml 294 q)) (hx : isX x ∧ isC r y) (hz : ¬ (nI 0 ≤ z ∧ z ≤ nI 6)) : RC g mr (r2 mi 293 r) (r2 ml 294 q) (callT (d + 4) mX5_end [.ref 292, .int x, .int y, .int z] (g, r2 mi 293 r, r2 ml 294 q, mr)) 2 (.int (nI 0)) K S (r, q) := by
  have h1 := hg.1
  have p1' : bI ((nI 0 ≤ x ∧ x ≤ nI 1) ∧ nI 0 ≤ y ∧ y ≤ r 0 - nI 1) = nI 1 := bI_t hx
  rw [eX5_end]
  simp only [wX5_end_0, wX5_end_1, wX5_end_2, wX5_end_3, wX5_end_4, wX5_end_7, wX5_end_10, wX5_end_11, wX5_end_14, wX5_end_15, wX5_end_16, wX5_end_18, wX5_end_21, wX5_end_24, wX5_end_25, wX5_end_28, wX5_end_29, wX5_end_32, wX5_end_35, wX5_end_36, wX5_end_39, wX5_end_40, wX5_end_41, wX5_end_42, wX5_end_43, wX5_end_46, h1, cs_0, cs_i, cs_r, isE_ hg, p1', m_in, bI_f hz, aR_1, n1_0, if_false, m_refuses hg, b2z, if_true]
  exact rcv hM
theorem m_callV1 (hg : MG g mr) (hM : MS K S (r, q) (r2 mi 293 r) (r2 ml 294 q)) (h5 : r 5 = nI N) (hN : N ≤ 40) (hn : n < N) (hw : w < 5) : RC g mr (r2 mi 293 r) (r2 ml 294 q) (callT (d + 2) mX5_callValue [.ref 292, .int (nI n), .int (nI w)] (g, r2 mi 293 r, r2 ml 294 q, mr)) 0 (.int (r (cI n w))) K S (r, q) := by
  obtain ⟨h1, h2, h3, -, -, -, -, -, -, h4, -⟩ := id hg
  have hx : bI (nI 0 ≤ nI n ∧ nI n ≤ nI N - nI 1) = nI 1 := bI_t ⟨nI_le (by omega) (by omega), by rw [pk_sub (by omega)]; exact nI_le (by omega) (by omega)⟩
  have hz : bI (nI 0 ≤ nI w ∧ nI w ≤ nI 4) = nI 1 := bI_t ⟨nI_le (by omega) (by omega), nI_le (by omega) (by omega)⟩
  rw [eX5_callValue]
  simp only [wX5_callValue_0, wX5_callValue_1, wX5_callValue_2, wX5_callValue_3, wX5_callValue_4, wX5_callValue_7, wX5_callValue_8, wX5_callValue_9, wX5_callValue_10, wX5_callValue_11, wX5_callValue_14, wX5_callValue_17, wX5_callValue_18, wX5_callValue_21, wX5_callValue_22, wX5_callValue_23, wX5_callValue_24, wX5_callValue_27, wX5_callValue_30, wX5_callValue_31, wX5_callValue_34, wX5_callValue_35, wX5_callValue_38, wX5_callValue_41, wX5_callValue_42, wX5_callValue_45, wX5_callValue_46, wX5_callValue_47, wX5_callValue_48, wX5_callValue_51, h1, h2, h3, h4, Nat.reduceLT, r2_s, h5, cs_0, cs_i, cs_r, m_in, hx, hz, aR_1, n1_0, if_false, m_refuses hg, bz, if_true, moc hg (show n < 40 by omega) (show w < 6 by omega), u293]
  exact rcv hM
theorem m_callV0 (hg : MG g mr) (hM : MS K S (r, q) (r2 mi 293 r) (r2 ml 294 q)) (hx : ¬ (nI 0 ≤ x ∧ x ≤ r 5 - nI 1)) : RC g mr (r2 mi 293 r) (r2 ml 294 q) (callT (d + 2) mX5_callValue [.ref 292, .int x, .int z] (g, r2 mi 293 r, r2 ml 294 q, mr)) 1 (.int (nI 0)) K S (r, q) := by
  obtain ⟨h1, h2, h3, -, -, -, -, -, -, h4, -⟩ := id hg
  rw [eX5_callValue]
  simp only [wX5_callValue_0, wX5_callValue_1, wX5_callValue_2, wX5_callValue_3, wX5_callValue_4, wX5_callValue_7, wX5_callValue_8, wX5_callValue_9, wX5_callValue_10, wX5_callValue_11, wX5_callValue_14, wX5_callValue_17, wX5_callValue_18, wX5_callValue_21, wX5_callValue_22, wX5_callValue_23, wX5_callValue_24, wX5_callValue_27, wX5_callValue_30, wX5_callValue_31, wX5_callValue_34, wX5_callValue_35, wX5_callValue_38, wX5_callValue_41, wX5_callValue_42, wX5_callValue_45, wX5_callValue_46, wX5_callValue_47, wX5_callValue_48, wX5_callValue_51, h1, h2, h3, h4, Nat.reduceLT, r2_s, cs_0, cs_i, cs_r, m_in, bI_f hx, aR_1, n1_0, if_false, m_refuses hg, b1z, if_true]
  exact rcv hM
theorem m_callV2 (hg : MG g mr) (hM : MS K S (r, q) (r2 mi 293 r) (r2 ml 294 q)) (hx : nI 0 ≤ x ∧ x ≤ r 5 - nI 1) (hz : ¬ (nI 0 ≤ z ∧ z ≤ nI 4)) : RC g mr (r2 mi 293 r) (r2 ml 294 q) (callT (d + 2) mX5_callValue [.ref 292, .int x, .int z] (g, r2 mi 293 r, r2 ml 294 q, mr)) 2 (.int (nI 0)) K S (r, q) := by
  obtain ⟨h1, h2, h3, -, -, -, -, -, -, h4, -⟩ := id hg
  rw [eX5_callValue]
  simp only [wX5_callValue_0, wX5_callValue_1, wX5_callValue_2, wX5_callValue_3, wX5_callValue_4, wX5_callValue_7, wX5_callValue_8, wX5_callValue_9, wX5_callValue_10, wX5_callValue_11, wX5_callValue_14, wX5_callValue_17, wX5_callValue_18, wX5_callValue_21, wX5_callValue_22, wX5_callValue_23, wX5_callValue_24, wX5_callValue_27, wX5_callValue_30, wX5_callValue_31, wX5_callValue_34, wX5_callValue_35, wX5_callValue_38, wX5_callValue_41, wX5_callValue_42, wX5_callValue_45, wX5_callValue_46, wX5_callValue_47, wX5_callValue_48, wX5_callValue_51, h1, h2, h3, h4, Nat.reduceLT, r2_s, cs_0, cs_i, cs_r, m_in, bI_t hx, bI_f hz, aR_1, n1_0, if_false, m_refuses hg, b2z, if_true]
  exact rcv hM
theorem m_choice1 (hg : MG g mr) (hM : MS K S (r, q) (r2 mi 293 r) (r2 ml 294 q)) (he : e < 2) (h0 : r 0 = nI C) (hC : C ≤ 12) : RC g mr (r2 mi 293 r) (r2 ml 294 q) (callT (d + 4) mX5_choice [.ref 292, .int (nI e)] (g, r2 mi 293 r, r2 ml 294 q, mr)) 0 (.int (mChosen r e (-1) C)) K S (r, q) := by
  have h1 := hg.1
  have hch := m_chosen (d := d) (mi := u2 (r2 mi 293 r) 292 5 (nI 0)) (ml := r2 ml 294 q) (but := -1) hg he (by rw [u293]; exact h0) hC
  rw [u293] at hch
  rw [eX5_choice]
  simp only [wX5_choice_0, wX5_choice_1, wX5_choice_2, wX5_choice_5, wX5_choice_8, wX5_choice_9, wX5_choice_12, wX5_choice_13, wX5_choice_16, wX5_choice_19, wX5_choice_20, wX5_choice_23, wX5_choice_24, wX5_choice_25, wX5_choice_26, wX5_choice_29, h1, cs_0, cs_i, cs_r, m_isEx, bX he, aR_1, n1_0, if_false, m_refuses hg, bz, if_true, hch]
  exact rcv hM
theorem m_choice0 (hg : MG g mr) (hM : MS K S (r, q) (r2 mi 293 r) (r2 ml 294 q)) (hx : ¬ isX x) : RC g mr (r2 mi 293 r) (r2 ml 294 q) (callT (d + 4) mX5_choice [.ref 292, .int x] (g, r2 mi 293 r, r2 ml 294 q, mr)) 1 (.int (nI 0)) K S (r, q) := by
  have h1 := hg.1
  have hx' : bI (nI 0 ≤ x ∧ x ≤ nI 1) = nI 0 := bI_f hx
  rw [eX5_choice]
  simp only [wX5_choice_0, wX5_choice_1, wX5_choice_2, wX5_choice_5, wX5_choice_8, wX5_choice_9, wX5_choice_12, wX5_choice_13, wX5_choice_16, wX5_choice_19, wX5_choice_20, wX5_choice_23, wX5_choice_24, wX5_choice_25, wX5_choice_26, wX5_choice_29, h1, cs_0, cs_i, cs_r, m_isEx, hx', aR_1, n1_0, if_false, m_refuses hg, b1z, if_true]
  exact rcv hM
end PUB3
