/-! the class's leaves: ends of circuits, calls -/
section LEAF
variable {d : Nat} {g : Gh} {mi : MI} {ml : ML} {mr : MR} {x y : Nat} {a b c : Int32}
theorem tt_l {p : Prop} : (True ∨ p) = True := propext ⟨fun _ => trivial, fun h => Or.inl h⟩
theorem c_enter (hx : g.1 x = 2) : callT (d + 1) mX1_enter [.ref x, .int a, .int b, .int c] (g, mi, ml, mr) = some (.inl none, g, u2 (u2 (u2 (u2 (u2 mi x 2 a) x 3 b) x 4 c) x 5 (nI 0)) x 9 (nI 0), ml, mr) := by
  rw [eX1_enter]
  simp only [wX1_enter_0, wX1_enter_1, wX1_enter_2, wX1_enter_5, wX1_enter_6, wX1_enter_7, wX1_enter_10, wX1_enter_11, wX1_enter_12, wX1_enter_15, wX1_enter_16, wX1_enter_17, wX1_enter_20, wX1_enter_21, wX1_enter_22, wX1_enter_25, hx, true_or]
theorem c_idle (hx : g.1 x = 2) : callT (d + 2) mX1_becomeIdle [.ref x] (g, mi, ml, mr) = some (.inl none, g, u2 (u2 (u2 (u2 (u2 mi x 2 (nI 0)) x 3 (-1)) x 4 (nI 0)) x 5 (nI 0)) x 9 (nI 0), ml, mr) := by
  rw [eX1_becomeIdle]
  simp only [wX1_becomeIdle_0, wX1_becomeIdle_1, wX1_becomeIdle_2, wX1_becomeIdle_3, wX1_becomeIdle_4, wX1_becomeIdle_7, hx, cs_0, c_enter hx, aR_v]
theorem c_slb (hx : g.1 x = 2) : callT (d + 1) mX1_setLocalBlock [.ref x, .int a, .int b] (g, mi, ml, mr) = some (.inl none, g, u2 (u2 mi x 6 a) x 7 b, ml, mr) := by
  rw [eX1_setLocalBlock]
  simp only [wX1_setLocalBlock_0, wX1_setLocalBlock_1, wX1_setLocalBlock_2, wX1_setLocalBlock_5, wX1_setLocalBlock_6, wX1_setLocalBlock_7, wX1_setLocalBlock_10, hx]
theorem c_isFree (hx : g.1 x = 2) : callT (d + 1) mX1_isFree [.ref x] (g, mi, ml, mr) = some (.inl (some (.int (bI (mi x 2 = nI 0 ∧ mi x 6 = nI 0 ∧ mi x 8 = nI 0)))), g, mi, ml, mr) := by
  rw [eX1_isFree]
  simp only [wX1_isFree_0, wX1_isFree_1, wX1_isFree_4, wX1_isFree_7, wX1_isFree_8, wX1_isFree_11, wX1_isFree_14, wX1_isFree_15, wX1_isFree_18, wX1_isFree_21, wX1_isFree_22, wX1_isFree_25, wX1_isFree_26, hx, true_or, or_true]
  unfold bI
  by_cases h1 : mi x 2 = nI 0 <;> by_cases h2 : mi x 6 = nI 0 <;> by_cases h3 : mi x 8 = nI 0 <;> simp [h1, h2, h3]
theorem c_isClearing (hx : g.1 x = 2) : callT (d + 1) mX1_isClearing [.ref x] (g, mi, ml, mr) = some (.inl (some (.int (bI (mi x 2 = nI 6 ∨ mi x 2 = nI 7)))), g, mi, ml, mr) := by
  rw [eX1_isClearing]
  simp only [wX1_isClearing_0, wX1_isClearing_1, wX1_isClearing_4, wX1_isClearing_6, wX1_isClearing_9, wX1_isClearing_10, wX1_isClearing_13, wX1_isClearing_15, wX1_isClearing_18, wX1_isClearing_19, wX1_isClearing_22, wX1_isClearing_23, hx, true_or, or_true]
  unfold bI
  by_cases h1 : mi x 2 = nI 6 <;> by_cases h2 : mi x 2 = nI 7 <;> simp [h1, h2]
theorem c_refuses (hx : g.1 x = 2) : callT (d + 1) mX1_refusesSeizure [.ref x] (g, mi, ml, mr) = some (.inl (some (.int (bI (mi x 6 = nI 1 ∨ mi x 6 = nI 2)))), g, mi, ml, mr) := by
  rw [eX1_refusesSeizure]
  simp only [wX1_refusesSeizure_0, wX1_refusesSeizure_1, wX1_refusesSeizure_4, wX1_refusesSeizure_5, wX1_refusesSeizure_8, wX1_refusesSeizure_9, wX1_refusesSeizure_12, wX1_refusesSeizure_13, wX1_refusesSeizure_16, wX1_refusesSeizure_17, wX1_refusesSeizure_20, wX1_refusesSeizure_21, hx, true_or, or_true]
  unfold bI
  by_cases h1 : mi x 6 = nI 1 <;> by_cases h2 : mi x 6 = nI 2 <;> simp [h1, h2]
theorem c_awaits (hx : g.1 x = 2) : callT (d + 1) mX1_awaitsBlockAnswer [.ref x] (g, mi, ml, mr) = some (.inl (some (.int (bI (mi x 6 = nI 1 ∨ mi x 6 = nI 3)))), g, mi, ml, mr) := by
  rw [eX1_awaitsBlockAnswer]
  simp only [wX1_awaitsBlockAnswer_0, wX1_awaitsBlockAnswer_1, wX1_awaitsBlockAnswer_4, wX1_awaitsBlockAnswer_5, wX1_awaitsBlockAnswer_8, wX1_awaitsBlockAnswer_9, wX1_awaitsBlockAnswer_12, wX1_awaitsBlockAnswer_13, wX1_awaitsBlockAnswer_16, wX1_awaitsBlockAnswer_17, wX1_awaitsBlockAnswer_20, wX1_awaitsBlockAnswer_21, hx, true_or, or_true]
  unfold bI
  by_cases h1 : mi x 6 = nI 1 <;> by_cases h2 : mi x 6 = nI 3 <;> simp [h1, h2]
theorem c_clear (hx : g.1 x = 2) : callT (d + 3) mX1_clear [.ref x] (g, mi, ml, mr) = some (.inl none, g, u2 (u2 (u2 (u2 (u2 (u2 (u2 (u2 (u2 mi x 2 (nI 0)) x 3 (-1)) x 4 (nI 0)) x 5 (nI 0)) x 9 (nI 0)) x 6 (nI 0)) x 7 (nI 0)) x 8 (nI 0)) x 10 (nI 0), ml, mr) := by
  rw [eX1_clear]
  simp only [wX1_clear_0, wX1_clear_1, wX1_clear_4, wX1_clear_5, wX1_clear_6, wX1_clear_7, wX1_clear_10, wX1_clear_11, wX1_clear_12, wX1_clear_15, wX1_clear_16, wX1_clear_17, wX1_clear_20, hx, cs_0, c_idle hx, c_slb hx, aR_v, true_or]
theorem c_finish (hx : g.1 x = 1) : callT (d + 1) mX0_finish [.ref x, .int a] (g, mi, ml, mr) = some (.inl none, g, u2 (u2 mi x 4 (nI 4)) x 5 a, ml, mr) := by
  rw [eX0_finish]
  simp only [wX0_finish_0, wX0_finish_1, wX0_finish_2, wX0_finish_5, wX0_finish_6, wX0_finish_7, wX0_finish_10, hx]
end LEAF
