/-! the reference: its smallest methods -/
section MOD1
variable {d : Nat} {g : Gh} {mi : MI} {ml : ML} {mr : MR} {e c w n : Nat} {a b v x y : Int32}
theorem m_in : callT (d + 1) mX5_in [.int v, .int a, .int b] (g, mi, ml, mr) = some (.inl (some (.int (bI (a ≤ v ∧ v ≤ b)))), g, mi, ml, mr) := by
  rw [eX5_in]
  simp only [wX5_in_0, wX5_in_1, wX5_in_2, wX5_in_5, wX5_in_6, wX5_in_7, wX5_in_10, wX5_in_11, wX5_in_14, wX5_in_15, true_or, or_true]
  unfold bI
  simp only [← Int32.not_le]
  by_cases h1 : a ≤ v <;> by_cases h2 : v ≤ b <;> simp [h1, h2]
theorem m_isEx : callT (d + 2) mX5_isExchange [.int v] (g, mi, ml, mr) = some (.inl (some (.int (bI (nI 0 ≤ v ∧ v ≤ nI 1)))), g, mi, ml, mr) := by
  rw [eX5_isExchange]
  simp only [wX5_isExchange_0, wX5_isExchange_1, wX5_isExchange_2, wX5_isExchange_3, wX5_isExchange_6, cs_0, m_in, aR_1, bI_01]
theorem m_isCi (hg : MG g mr) : callT (d + 2) mX5_isCircuit [.ref 292, .int v] (g, mi, ml, mr) = some (.inl (some (.int (bI (nI 0 ≤ v ∧ v ≤ mi 293 0 - nI 1)))), g, mi, ml, mr) := by
  obtain ⟨h1, h2, h3, -, -, -, -, -, -, h4, -⟩ := hg
  rw [eX5_isCircuit]
  simp only [wX5_isCircuit_0, wX5_isCircuit_1, wX5_isCircuit_2, wX5_isCircuit_3, wX5_isCircuit_6, wX5_isCircuit_7, wX5_isCircuit_8, wX5_isCircuit_9, wX5_isCircuit_10, wX5_isCircuit_13, h1, h2, h3, h4, cs_0, m_in, aR_1, bI_01, Nat.reduceLT]
theorem m_refuses (hg : MG g mr) : callT (d + 1) mX5_refuses [.ref 292, .int v] (g, mi, ml, mr) = some (.inl (some (.int (bI (¬ v = nI 0)))), g, u2 mi 292 5 v, ml, mr) := by
  obtain ⟨h1, -⟩ := hg
  rw [eX5_refuses]
  simp only [wX5_refuses_0, wX5_refuses_1, wX5_refuses_2, wX5_refuses_5, wX5_refuses_6, wX5_refuses_9, wX5_refuses_10, wX5_refuses_13, wX5_refuses_14, h1, true_or, or_true]
  unfold bI
  by_cases h : v = nI 0 <;> simp [h]
theorem m_endAt : callT (d + 1) mX5_endAt [.int (nI e), .int (nI c)] (g, mi, ml, mr) = some (.inl (some (.int (nI (24 + 9 * (2 * c + e))))), g, mi, ml, mr) := by
  rw [eX5_endAt]
  simp only [wX5_endAt_0, wX5_endAt_2, wX5_endAt_4, wX5_endAt_5, wX5_endAt_6, wX5_endAt_7, wX5_endAt_8, wX5_endAt_9, wX5_endAt_10, wX5_endAt_11, pk_mul, nI_add]
theorem m_of (hg : MG g mr) (he : e < 2) (hc : c < 12) (hw : w < 9) : callT (d + 2) mX5_of [.ref 292, .int (nI e), .int (nI c), .int (nI w)] (g, mi, ml, mr) = some (.inl (some (.int (mi 293 (24 + 9 * (2 * c + e) + w)))), g, mi, ml, mr) := by
  obtain ⟨h1, h2, h3, -, -, -, -, -, -, h4, -⟩ := hg
  have hj : 24 + 9 * (2 * c + e) + w < 480 := by omega
  have hb : 24 + 9 * (2 * c + e) + w < 2147483648 := by omega
  rw [eX5_of]
  simp only [wX5_of_0, wX5_of_1, wX5_of_4, wX5_of_5, wX5_of_6, wX5_of_9, wX5_of_10, wX5_of_11, wX5_of_12, h1, h2, h3, h4, cs_0, cs_i, cs_r, cs_l, m_endAt, aR_1, nI_add, hj, hb, Nat.reduceAdd, Nat.reduceLeDiff]
theorem m_set (hg : MG g mr) (he : e < 2) (hc : c < 12) (hw : w < 9) : callT (d + 2) mX5_set [.ref 292, .int (nI e), .int (nI c), .int (nI w), .int v] (g, mi, ml, mr) = some (.inl none, g, r2 mi 293 (u1 (mi 293) (24 + 9 * (2 * c + e) + w) v), ml, mr) := by
  obtain ⟨h1, h2, h3, -, -, -, -, -, -, h4, -⟩ := hg
  have hj : 24 + 9 * (2 * c + e) + w < 480 := by omega
  have hb : 24 + 9 * (2 * c + e) + w < 2147483648 := by omega
  rw [eX5_set]
  simp only [wX5_set_0, wX5_set_1, wX5_set_4, wX5_set_5, wX5_set_6, wX5_set_9, wX5_set_10, wX5_set_11, wX5_set_13, wX5_set_14, h1, h2, h3, h4, cs_0, cs_i, cs_r, cs_l, m_endAt, aR_1, nI_add, hj, hb, Nat.reduceAdd, Nat.reduceLeDiff, u2_r2]
theorem m_ofCall (hg : MG g mr) (hn : n < 40) (hw : w < 6) : callT (d + 1) mX5_ofCall [.ref 292, .int (nI n), .int (nI w)] (g, mi, ml, mr) = some (.inl (some (.int (mi 293 (240 + 6 * n + w)))), g, mi, ml, mr) := by
  obtain ⟨h1, h2, h3, -, -, -, -, -, -, h4, -⟩ := hg
  have hj : 240 + 6 * n + w < 480 := by omega
  have hb : 240 + 6 * n + w < 2147483648 := by omega
  rw [eX5_ofCall]
  simp only [wX5_ofCall_0, wX5_ofCall_1, wX5_ofCall_4, wX5_ofCall_7, wX5_ofCall_9, wX5_ofCall_10, wX5_ofCall_11, wX5_ofCall_12, wX5_ofCall_13, wX5_ofCall_14, wX5_ofCall_15, h1, h2, h3, h4, pk_mul, nI_add, hj, hb]
theorem m_setCall (hg : MG g mr) (hn : n < 40) (hw : w < 6) : callT (d + 1) mX5_setCall [.ref 292, .int (nI n), .int (nI w), .int v] (g, mi, ml, mr) = some (.inl none, g, r2 mi 293 (u1 (mi 293) (240 + 6 * n + w) v), ml, mr) := by
  obtain ⟨h1, h2, h3, -, -, -, -, -, -, h4, -⟩ := hg
  have hj : 240 + 6 * n + w < 480 := by omega
  have hb : 240 + 6 * n + w < 2147483648 := by omega
  rw [eX5_setCall]
  simp only [wX5_setCall_0, wX5_setCall_1, wX5_setCall_4, wX5_setCall_7, wX5_setCall_9, wX5_setCall_10, wX5_setCall_11, wX5_setCall_12, wX5_setCall_13, wX5_setCall_14, wX5_setCall_15, wX5_setCall_16, h1, h2, h3, h4, pk_mul, nI_add, hj, hb, u2_r2]
theorem m_becomes (hg : MG g mr) (hn : n < 480) : callT (d + 1) mX5_becomes [.ref 292, .int (nI n), .int v] (g, mi, ml, mr) = some (.inl (some (.int (mi 293 n))), g, r2 mi 293 (u1 (mi 293) n v), ml, mr) := by
  obtain ⟨h1, h2, h3, -, -, -, -, -, -, h4, -⟩ := hg
  have hb : n < 2147483648 := by omega
  rw [eX5_becomes]
  simp only [wX5_becomes_0, wX5_becomes_1, wX5_becomes_4, wX5_becomes_5, wX5_becomes_6i, wX5_becomes_6r, wX5_becomes_6n, wX5_becomes_7, wX5_becomes_8, wX5_becomes_11, wX5_becomes_12, wX5_becomes_13, wX5_becomes_14, wX5_becomes_15, h1, h2, h3, h4, hn, hb, u2_r2, cat_i, cat_n]
theorem m_thrownX (hg : MG g mr) : True := trivial
theorem m_thrown (hg : MG g mr) : callT (d + 1) mX5_thrown [.ref 292] (g, mi, ml, mr) = some (.inl (some (.int (mi 292 5))), g, mi, ml, mr) := by
  obtain ⟨h1, -⟩ := hg
  rw [eX5_thrown]
  simp only [wX5_thrown_0, wX5_thrown_1, wX5_thrown_4, h1]
theorem m_isEnd (hg : MG g mr) : callT (d + 3) mX5_isEnd [.ref 292, .int x, .int y] (g, mi, ml, mr) = some (.inl (some (.int (bI ((nI 0 ≤ x ∧ x ≤ nI 1) ∧ nI 0 ≤ y ∧ y ≤ mi 293 0 - nI 1)))), g, mi, ml, mr) := by
  have h1 := hg.1
  rw [eX5_isEnd]
  simp only [wX5_isEnd_0, wX5_isEnd_1, wX5_isEnd_4, wX5_isEnd_7, wX5_isEnd_8, wX5_isEnd_9, wX5_isEnd_12, wX5_isEnd_15, wX5_isEnd_16, wX5_isEnd_19, wX5_isEnd_20, h1, cs_0, cs_i, cs_r, cs_l, Nat.zero_le, m_isEx, m_isCi hg, aR_1, bI_0]
  by_cases p1 : nI 0 ≤ x ∧ x ≤ nI 1 <;> by_cases p2 : nI 0 ≤ y ∧ y ≤ mi 293 0 - nI 1 <;> simp [p1, p2, bI, wX5_isEnd_0, wX5_isEnd_1, wX5_isEnd_4, wX5_isEnd_7, wX5_isEnd_8, wX5_isEnd_9, wX5_isEnd_12, wX5_isEnd_15, wX5_isEnd_16, wX5_isEnd_19, wX5_isEnd_20]
end MOD1
