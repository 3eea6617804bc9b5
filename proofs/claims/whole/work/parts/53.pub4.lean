/-! the reference: messages read, counts, undo -/
def vM (r : Nat → Int32) (q : Nat → Int64) (i w : Nat) : Int32 := if w = 0 then (q i / lN 262144 - (r 2).toInt64).toInt32 else if w = 1 then dE (q i) else if w = 2 then dC (q i) else if w = 3 then dK (q i) else dV (q i)
def cB (r : Nat → Int32) (w c : Nat) : Bool := if w = 0 then decide (r (eI 0 c 0) = nI 0) && decide (r (eI 1 c 0) = nI 0)
  else if w = 1 then decide (r (eI 0 c 0) = nI 4) && (decide (r (eI 1 c 0) = nI 4) && decide (r (eI 0 c 1) = r (eI 1 c 1)))
  else if w = 2 then !decide (r (eI 0 c 1) = -1) && (!decide (r (eI 1 c 1) = -1) && !decide (r (eI 0 c 1) = r (eI 1 c 1)))
  else if w = 3 then decide (nI 6 ≤ r (eI 0 c 0)) || decide (nI 6 ≤ r (eI 1 c 0))
  else !decide (r (eI 0 c 4) = nI 0) || !decide (r (eI 1 c 4) = nI 0)
def cO (r : Nat → Int32) (w C : Nat) : Nat := sumN (fun c => if cB r w c = true then 1 else 0) C
section PUB4
variable {X : Nat → Nat → Nat} {h hb : Nat → Nat} {N t D e c w k v n j s a b B d C K L cnt : Nat} {r : Nat → Int32} {q : Nat → Int64} {z x y : Int32} {g : Gh} {mi mi' mi0 : MI} {ml ml' ml0 : ML} {mr : MR} {S : Nat → PS} {p : PS} {ret : Value}
theorem m_msgOf (hg : MG g mr) (hj : j < 12500) (hw : w < 5) : callT (d + 2) mX5_messageOf [.ref 292, .int (nI j), .int (nI w)] (g, mi, ml, mr) = some (.inl (some (.int (vM (mi 293) (ml 294) j w))), g, mi, ml, mr) := by
  obtain ⟨h1, h2, h3, h5, h6, -, -, -, -, h4, h7, -⟩ := hg
  have b2 : j < 2147483648 := by omega
  have n20 : ¬ nI 2 = nI 0 := by decide
  have n21 : ¬ nI 2 = nI 1 := by decide
  have n30 : ¬ nI 3 = nI 0 := by decide
  have n31 : ¬ nI 3 = nI 1 := by decide
  have n32 : ¬ nI 3 = nI 2 := by decide
  have n40 : ¬ nI 4 = nI 0 := by decide
  have n41 : ¬ nI 4 = nI 1 := by decide
  have n42 : ¬ nI 4 = nI 2 := by decide
  have n43 : ¬ nI 4 = nI 3 := by decide
  rw [eX5_messageOf]
  unfold vM
  have hw' : w = 0 ∨ w = 1 ∨ w = 2 ∨ w = 3 ∨ w = 4 := by omega
  rcases hw' with rfl | rfl | rfl | rfl | rfl
  · simp only [wX5_messageOf_0, wX5_messageOf_1, wX5_messageOf_4, wX5_messageOf_5, wX5_messageOf_6i, wX5_messageOf_6r, wX5_messageOf_6n, wX5_messageOf_7, wX5_messageOf_8, wX5_messageOf_11, wX5_messageOf_12, wX5_messageOf_15, wX5_messageOf_16, wX5_messageOf_19, wX5_messageOf_20, wX5_messageOf_21, wX5_messageOf_22, wX5_messageOf_23, wX5_messageOf_24, wX5_messageOf_27, wX5_messageOf_28, wX5_messageOf_29, wX5_messageOf_32, wX5_messageOf_33, wX5_messageOf_36, wX5_messageOf_39, wX5_messageOf_40, wX5_messageOf_41, wX5_messageOf_44, wX5_messageOf_45, wX5_messageOf_48, wX5_messageOf_51, wX5_messageOf_52, wX5_messageOf_53, wX5_messageOf_56, wX5_messageOf_57, wX5_messageOf_60, wX5_messageOf_63, wX5_messageOf_64, wX5_messageOf_67, h1, h2, h3, h4, h5, h6, h7, hj, b2, Nat.reduceLT, cs_0, cs_i, cs_r, cs_l, m_arr, aR_1, if_true]
  · simp only [wX5_messageOf_0, wX5_messageOf_1, wX5_messageOf_4, wX5_messageOf_5, wX5_messageOf_6i, wX5_messageOf_6r, wX5_messageOf_6n, wX5_messageOf_7, wX5_messageOf_8, wX5_messageOf_11, wX5_messageOf_12, wX5_messageOf_15, wX5_messageOf_16, wX5_messageOf_19, wX5_messageOf_20, wX5_messageOf_21, wX5_messageOf_22, wX5_messageOf_23, wX5_messageOf_24, wX5_messageOf_27, wX5_messageOf_28, wX5_messageOf_29, wX5_messageOf_32, wX5_messageOf_33, wX5_messageOf_36, wX5_messageOf_39, wX5_messageOf_40, wX5_messageOf_41, wX5_messageOf_44, wX5_messageOf_45, wX5_messageOf_48, wX5_messageOf_51, wX5_messageOf_52, wX5_messageOf_53, wX5_messageOf_56, wX5_messageOf_57, wX5_messageOf_60, wX5_messageOf_63, wX5_messageOf_64, wX5_messageOf_67, h1, h2, h3, h4, h5, h6, h7, hj, b2, Nat.reduceLT, cs_0, cs_i, cs_r, cs_l, m_exO, aR_1, if_true, n1_0, if_false, Nat.one_ne_zero]
  · simp only [wX5_messageOf_0, wX5_messageOf_1, wX5_messageOf_4, wX5_messageOf_5, wX5_messageOf_6i, wX5_messageOf_6r, wX5_messageOf_6n, wX5_messageOf_7, wX5_messageOf_8, wX5_messageOf_11, wX5_messageOf_12, wX5_messageOf_15, wX5_messageOf_16, wX5_messageOf_19, wX5_messageOf_20, wX5_messageOf_21, wX5_messageOf_22, wX5_messageOf_23, wX5_messageOf_24, wX5_messageOf_27, wX5_messageOf_28, wX5_messageOf_29, wX5_messageOf_32, wX5_messageOf_33, wX5_messageOf_36, wX5_messageOf_39, wX5_messageOf_40, wX5_messageOf_41, wX5_messageOf_44, wX5_messageOf_45, wX5_messageOf_48, wX5_messageOf_51, wX5_messageOf_52, wX5_messageOf_53, wX5_messageOf_56, wX5_messageOf_57, wX5_messageOf_60, wX5_messageOf_63, wX5_messageOf_64, wX5_messageOf_67, h1, h2, h3, h4, h5, h6, h7, hj, b2, Nat.reduceLT, cs_0, cs_i, cs_r, cs_l, m_ciO, aR_1, if_true, n20, n21, if_false, Nat.reduceEqDiff]
  · simp only [wX5_messageOf_0, wX5_messageOf_1, wX5_messageOf_4, wX5_messageOf_5, wX5_messageOf_6i, wX5_messageOf_6r, wX5_messageOf_6n, wX5_messageOf_7, wX5_messageOf_8, wX5_messageOf_11, wX5_messageOf_12, wX5_messageOf_15, wX5_messageOf_16, wX5_messageOf_19, wX5_messageOf_20, wX5_messageOf_21, wX5_messageOf_22, wX5_messageOf_23, wX5_messageOf_24, wX5_messageOf_27, wX5_messageOf_28, wX5_messageOf_29, wX5_messageOf_32, wX5_messageOf_33, wX5_messageOf_36, wX5_messageOf_39, wX5_messageOf_40, wX5_messageOf_41, wX5_messageOf_44, wX5_messageOf_45, wX5_messageOf_48, wX5_messageOf_51, wX5_messageOf_52, wX5_messageOf_53, wX5_messageOf_56, wX5_messageOf_57, wX5_messageOf_60, wX5_messageOf_63, wX5_messageOf_64, wX5_messageOf_67, h1, h2, h3, h4, h5, h6, h7, hj, b2, Nat.reduceLT, cs_0, cs_i, cs_r, cs_l, m_kiO, aR_1, if_true, n30, n31, n32, if_false, Nat.reduceEqDiff]
  · simp only [wX5_messageOf_0, wX5_messageOf_1, wX5_messageOf_4, wX5_messageOf_5, wX5_messageOf_6i, wX5_messageOf_6r, wX5_messageOf_6n, wX5_messageOf_7, wX5_messageOf_8, wX5_messageOf_11, wX5_messageOf_12, wX5_messageOf_15, wX5_messageOf_16, wX5_messageOf_19, wX5_messageOf_20, wX5_messageOf_21, wX5_messageOf_22, wX5_messageOf_23, wX5_messageOf_24, wX5_messageOf_27, wX5_messageOf_28, wX5_messageOf_29, wX5_messageOf_32, wX5_messageOf_33, wX5_messageOf_36, wX5_messageOf_39, wX5_messageOf_40, wX5_messageOf_41, wX5_messageOf_44, wX5_messageOf_45, wX5_messageOf_48, wX5_messageOf_51, wX5_messageOf_52, wX5_messageOf_53, wX5_messageOf_56, wX5_messageOf_57, wX5_messageOf_60, wX5_messageOf_63, wX5_messageOf_64, wX5_messageOf_67, h1, h2, h3, h4, h5, h6, h7, hj, b2, Nat.reduceLT, cs_0, cs_i, cs_r, cs_l, m_vaO, aR_1, if_true, n40, n41, n42, n43, if_false, Nat.reduceEqDiff]
theorem u294 : u2 (r2 mi 293 r) 292 5 z 293 = r := u293
theorem m_msg1 (hg : MG g mr) (hM : MS K S (r, q) (r2 mi 293 r) (r2 ml 294 q)) (h11 : r 11 = nI n) (hn : n ≤ 12500) (hj : j < n) (hw : w < 5) : RC g mr (r2 mi 293 r) (r2 ml 294 q) (callT (d + 3) mX5_message [.ref 292, .int (nI j), .int (nI w)] (g, r2 mi 293 r, r2 ml 294 q, mr)) 0 (.int (vM r q j w)) K S (r, q) := by
  obtain ⟨h1, h2, h3, -, -, -, -, -, -, h4, -⟩ := id hg
  have hx : bI (nI 0 ≤ nI j ∧ nI j ≤ nI n - nI 1) = nI 1 := bI_t ⟨nI_le (by omega) (by omega), by rw [pk_sub (by omega)]; exact nI_le (by omega) (by omega)⟩
  have hz : bI (nI 0 ≤ nI w ∧ nI w ≤ nI 4) = nI 1 := bI_t ⟨nI_le (by omega) (by omega), nI_le (by omega) (by omega)⟩
  rw [eX5_message]
  simp only [wX5_message_0, wX5_message_1, wX5_message_2, wX5_message_3, wX5_message_4, wX5_message_7, wX5_message_9, wX5_message_10, wX5_message_11, wX5_message_12, wX5_message_15, wX5_message_18, wX5_message_19, wX5_message_22, wX5_message_23, wX5_message_24, wX5_message_25, wX5_message_28, wX5_message_31, wX5_message_32, wX5_message_35, wX5_message_36, wX5_message_39, wX5_message_42, wX5_message_43, wX5_message_46, wX5_message_47, wX5_message_48, wX5_message_49, wX5_message_52, h1, h2, h3, h4, Nat.reduceLT, r2_s, h11, cs_0, cs_i, cs_r, m_in, hx, hz, aR_1, n1_0, if_false, m_refuses hg, bz, if_true, m_msgOf hg (show j < 12500 by omega) hw, u293]
  exact rcv hM
theorem m_msg0 (hg : MG g mr) (hM : MS K S (r, q) (r2 mi 293 r) (r2 ml 294 q)) (hx : ¬ (nI 0 ≤ x ∧ x ≤ r 11 - nI 1)) : RC g mr (r2 mi 293 r) (r2 ml 294 q) (callT (d + 3) mX5_message [.ref 292, .int x, .int z] (g, r2 mi 293 r, r2 ml 294 q, mr)) 1 (.int (nI 0)) K S (r, q) := by
  obtain ⟨h1, h2, h3, -, -, -, -, -, -, h4, -⟩ := id hg
  rw [eX5_message]
  simp only [wX5_message_0, wX5_message_1, wX5_message_2, wX5_message_3, wX5_message_4, wX5_message_7, wX5_message_9, wX5_message_10, wX5_message_11, wX5_message_12, wX5_message_15, wX5_message_18, wX5_message_19, wX5_message_22, wX5_message_23, wX5_message_24, wX5_message_25, wX5_message_28, wX5_message_31, wX5_message_32, wX5_message_35, wX5_message_36, wX5_message_39, wX5_message_42, wX5_message_43, wX5_message_46, wX5_message_47, wX5_message_48, wX5_message_49, wX5_message_52, h1, h2, h3, h4, Nat.reduceLT, r2_s, cs_0, cs_i, cs_r, m_in, bI_f hx, aR_1, n1_0, if_false, m_refuses hg, b1z, if_true]
  exact rcv hM
theorem m_msg2 (hg : MG g mr) (hM : MS K S (r, q) (r2 mi 293 r) (r2 ml 294 q)) (hx : nI 0 ≤ x ∧ x ≤ r 11 - nI 1) (hz : ¬ (nI 0 ≤ z ∧ z ≤ nI 4)) : RC g mr (r2 mi 293 r) (r2 ml 294 q) (callT (d + 3) mX5_message [.ref 292, .int x, .int z] (g, r2 mi 293 r, r2 ml 294 q, mr)) 2 (.int (nI 0)) K S (r, q) := by
  obtain ⟨h1, h2, h3, -, -, -, -, -, -, h4, -⟩ := id hg
  rw [eX5_message]
  simp only [wX5_message_0, wX5_message_1, wX5_message_2, wX5_message_3, wX5_message_4, wX5_message_7, wX5_message_9, wX5_message_10, wX5_message_11, wX5_message_12, wX5_message_15, wX5_message_18, wX5_message_19, wX5_message_22, wX5_message_23, wX5_message_24, wX5_message_25, wX5_message_28, wX5_message_31, wX5_message_32, wX5_message_35, wX5_message_36, wX5_message_39, wX5_message_42, wX5_message_43, wX5_message_46, wX5_message_47, wX5_message_48, wX5_message_49, wX5_message_52, h1, h2, h3, h4, Nat.reduceLT, r2_s, cs_0, cs_i, cs_r, m_in, bI_t hx, bI_f hz, aR_1, n1_0, if_false, m_refuses hg, b2z, if_true]
  exact rcv hM
theorem m_counts (hg : MG g mr) (hc : c < 12) (hw : w < 5) : callT (d + 3) mX5_counts [.ref 292, .int (nI c), .int (nI w)] (g, mi, ml, mr) = some (.inl (some (.int (bI (cB (mi 293) w c = true)))), g, mi, ml, mr) := by
  have h1 := hg.1
  have x4 : (nI 4).toInt < 0 ∨ 3 < (nI 4).toInt := by decide
  have m0 := fun {e} (he : e < 2) => mo (d := d) (mi := mi) (ml := ml) hg he hc (show 0 < 9 by decide)
  have m1 := fun {e} (he : e < 2) => mo (d := d) (mi := mi) (ml := ml) hg he hc (show 1 < 9 by decide)
  have m4 := fun {e} (he : e < 2) => mo (d := d) (mi := mi) (ml := ml) hg he hc (show 4 < 9 by decide)
  have z2 : (0 : Nat) < 2 := by decide
  have o2 : (1 : Nat) < 2 := by decide
  rw [eX5_counts]
  have hw' : w = 0 ∨ w = 1 ∨ w = 2 ∨ w = 3 ∨ w = 4 := by omega
  rcases hw' with rfl | rfl | rfl | rfl | rfl
  · have hB : cB (mi 293) 0 c = (decide (mi 293 (eI 0 c 0) = nI 0) && decide (mi 293 (eI 1 c 0) = nI 0)) := rfl
    rw [hB]
    simp only [wX5_counts_0, wX5_counts_1, wX5_counts_2, wX5_counts_3, wX5_counts_4, wX5_counts_7i, wX5_counts_7r, wX5_counts_7n, wX5_counts_8, wX5_counts_9, wX5_counts_10, wX5_counts_11, wX5_counts_12, wX5_counts_15i, wX5_counts_15r, wX5_counts_15n, wX5_counts_17, wX5_counts_18, wX5_counts_19, wX5_counts_20, wX5_counts_21, wX5_counts_24i, wX5_counts_24r, wX5_counts_24n, wX5_counts_26, wX5_counts_27, wX5_counts_28, wX5_counts_29, wX5_counts_30, wX5_counts_33i, wX5_counts_33r, wX5_counts_33n, wX5_counts_35, wX5_counts_36_0, wX5_counts_36_1, wX5_counts_36_2, wX5_counts_36_3, wX5_counts_36d, wX5_counts_68, wX5_counts_69, wX5_counts_72, wX5_counts_74, wX5_counts_77, wX5_counts_78, wX5_counts_81, wX5_counts_82, wX5_counts_83, wX5_counts_84, wX5_counts_85, wX5_counts_88, wX5_counts_90, wX5_counts_91, wX5_counts_94, wX5_counts_96, wX5_counts_98, wX5_counts_101, wX5_counts_102, wX5_counts_105, wX5_counts_106, wX5_counts_107, wX5_counts_109, wX5_counts_110, wX5_counts_113, wX5_counts_115, wX5_counts_116, wX5_counts_119, wX5_counts_121, wX5_counts_123, wX5_counts_126, wX5_counts_127, wX5_counts_130, wX5_counts_131, wX5_counts_132, wX5_counts_133, wX5_counts_135, wX5_counts_138, wX5_counts_140, wX5_counts_142, wX5_counts_145, wX5_counts_146, wX5_counts_149, wX5_counts_150, wX5_counts_151, wX5_counts_152, wX5_counts_153, wX5_counts_154, wX5_counts_155, wX5_counts_158, wX5_counts_161, wX5_counts_162, wX5_counts_163, wX5_counts_164, wX5_counts_165, wX5_counts_168, wX5_counts_171, wX5_counts_172, wX5_counts_175, wX5_counts_176, h1, cs_0, cs_i, cs_r, m0 z2, m0 o2, m1 z2, m1 o2, aR_1]
    by_cases p1 : mi 293 (eI 0 c 0) = nI 0 <;> by_cases p2 : mi 293 (eI 1 c 0) = nI 0 <;> simp only [wX5_counts_0, wX5_counts_1, wX5_counts_2, wX5_counts_3, wX5_counts_4, wX5_counts_7i, wX5_counts_7r, wX5_counts_7n, wX5_counts_8, wX5_counts_9, wX5_counts_10, wX5_counts_11, wX5_counts_12, wX5_counts_15i, wX5_counts_15r, wX5_counts_15n, wX5_counts_17, wX5_counts_18, wX5_counts_19, wX5_counts_20, wX5_counts_21, wX5_counts_24i, wX5_counts_24r, wX5_counts_24n, wX5_counts_26, wX5_counts_27, wX5_counts_28, wX5_counts_29, wX5_counts_30, wX5_counts_33i, wX5_counts_33r, wX5_counts_33n, wX5_counts_35, wX5_counts_36_0, wX5_counts_36_1, wX5_counts_36_2, wX5_counts_36_3, wX5_counts_36d, wX5_counts_68, wX5_counts_69, wX5_counts_72, wX5_counts_74, wX5_counts_77, wX5_counts_78, wX5_counts_81, wX5_counts_82, wX5_counts_83, wX5_counts_84, wX5_counts_85, wX5_counts_88, wX5_counts_90, wX5_counts_91, wX5_counts_94, wX5_counts_96, wX5_counts_98, wX5_counts_101, wX5_counts_102, wX5_counts_105, wX5_counts_106, wX5_counts_107, wX5_counts_109, wX5_counts_110, wX5_counts_113, wX5_counts_115, wX5_counts_116, wX5_counts_119, wX5_counts_121, wX5_counts_123, wX5_counts_126, wX5_counts_127, wX5_counts_130, wX5_counts_131, wX5_counts_132, wX5_counts_133, wX5_counts_135, wX5_counts_138, wX5_counts_140, wX5_counts_142, wX5_counts_145, wX5_counts_146, wX5_counts_149, wX5_counts_150, wX5_counts_151, wX5_counts_152, wX5_counts_153, wX5_counts_154, wX5_counts_155, wX5_counts_158, wX5_counts_161, wX5_counts_162, wX5_counts_163, wX5_counts_164, wX5_counts_165, wX5_counts_168, wX5_counts_171, wX5_counts_172, wX5_counts_175, wX5_counts_176, p1, p2, if_true, if_false, true_or, or_true, decide_true, decide_false, Bool.and_true, Bool.and_false, Bool.true_and, Bool.false_and, bI, Bool.false_eq_true]
  · have hB : cB (mi 293) 1 c = (decide (mi 293 (eI 0 c 0) = nI 4) && (decide (mi 293 (eI 1 c 0) = nI 4) && decide (mi 293 (eI 0 c 1) = mi 293 (eI 1 c 1)))) := rfl
    rw [hB]
    simp only [wX5_counts_0, wX5_counts_1, wX5_counts_2, wX5_counts_3, wX5_counts_4, wX5_counts_7i, wX5_counts_7r, wX5_counts_7n, wX5_counts_8, wX5_counts_9, wX5_counts_10, wX5_counts_11, wX5_counts_12, wX5_counts_15i, wX5_counts_15r, wX5_counts_15n, wX5_counts_17, wX5_counts_18, wX5_counts_19, wX5_counts_20, wX5_counts_21, wX5_counts_24i, wX5_counts_24r, wX5_counts_24n, wX5_counts_26, wX5_counts_27, wX5_counts_28, wX5_counts_29, wX5_counts_30, wX5_counts_33i, wX5_counts_33r, wX5_counts_33n, wX5_counts_35, wX5_counts_36_0, wX5_counts_36_1, wX5_counts_36_2, wX5_counts_36_3, wX5_counts_36d, wX5_counts_68, wX5_counts_69, wX5_counts_72, wX5_counts_74, wX5_counts_77, wX5_counts_78, wX5_counts_81, wX5_counts_82, wX5_counts_83, wX5_counts_84, wX5_counts_85, wX5_counts_88, wX5_counts_90, wX5_counts_91, wX5_counts_94, wX5_counts_96, wX5_counts_98, wX5_counts_101, wX5_counts_102, wX5_counts_105, wX5_counts_106, wX5_counts_107, wX5_counts_109, wX5_counts_110, wX5_counts_113, wX5_counts_115, wX5_counts_116, wX5_counts_119, wX5_counts_121, wX5_counts_123, wX5_counts_126, wX5_counts_127, wX5_counts_130, wX5_counts_131, wX5_counts_132, wX5_counts_133, wX5_counts_135, wX5_counts_138, wX5_counts_140, wX5_counts_142, wX5_counts_145, wX5_counts_146, wX5_counts_149, wX5_counts_150, wX5_counts_151, wX5_counts_152, wX5_counts_153, wX5_counts_154, wX5_counts_155, wX5_counts_158, wX5_counts_161, wX5_counts_162, wX5_counts_163, wX5_counts_164, wX5_counts_165, wX5_counts_168, wX5_counts_171, wX5_counts_172, wX5_counts_175, wX5_counts_176, h1, cs_0, cs_i, cs_r, m0 z2, m0 o2, m1 z2, m1 o2, aR_1]
    by_cases p1 : mi 293 (eI 0 c 0) = nI 4 <;> by_cases p2 : mi 293 (eI 1 c 0) = nI 4 <;> by_cases p3 : mi 293 (eI 0 c 1) = mi 293 (eI 1 c 1) <;> simp only [wX5_counts_0, wX5_counts_1, wX5_counts_2, wX5_counts_3, wX5_counts_4, wX5_counts_7i, wX5_counts_7r, wX5_counts_7n, wX5_counts_8, wX5_counts_9, wX5_counts_10, wX5_counts_11, wX5_counts_12, wX5_counts_15i, wX5_counts_15r, wX5_counts_15n, wX5_counts_17, wX5_counts_18, wX5_counts_19, wX5_counts_20, wX5_counts_21, wX5_counts_24i, wX5_counts_24r, wX5_counts_24n, wX5_counts_26, wX5_counts_27, wX5_counts_28, wX5_counts_29, wX5_counts_30, wX5_counts_33i, wX5_counts_33r, wX5_counts_33n, wX5_counts_35, wX5_counts_36_0, wX5_counts_36_1, wX5_counts_36_2, wX5_counts_36_3, wX5_counts_36d, wX5_counts_68, wX5_counts_69, wX5_counts_72, wX5_counts_74, wX5_counts_77, wX5_counts_78, wX5_counts_81, wX5_counts_82, wX5_counts_83, wX5_counts_84, wX5_counts_85, wX5_counts_88, wX5_counts_90, wX5_counts_91, wX5_counts_94, wX5_counts_96, wX5_counts_98, wX5_counts_101, wX5_counts_102, wX5_counts_105, wX5_counts_106, wX5_counts_107, wX5_counts_109, wX5_counts_110, wX5_counts_113, wX5_counts_115, wX5_counts_116, wX5_counts_119, wX5_counts_121, wX5_counts_123, wX5_counts_126, wX5_counts_127, wX5_counts_130, wX5_counts_131, wX5_counts_132, wX5_counts_133, wX5_counts_135, wX5_counts_138, wX5_counts_140, wX5_counts_142, wX5_counts_145, wX5_counts_146, wX5_counts_149, wX5_counts_150, wX5_counts_151, wX5_counts_152, wX5_counts_153, wX5_counts_154, wX5_counts_155, wX5_counts_158, wX5_counts_161, wX5_counts_162, wX5_counts_163, wX5_counts_164, wX5_counts_165, wX5_counts_168, wX5_counts_171, wX5_counts_172, wX5_counts_175, wX5_counts_176, p1, p2, p3, if_true, if_false, true_or, or_true, decide_true, decide_false, Bool.and_true, Bool.and_false, Bool.true_and, Bool.false_and, bI, Bool.false_eq_true]
  · have hB : cB (mi 293) 2 c = (!decide (mi 293 (eI 0 c 1) = -1) && (!decide (mi 293 (eI 1 c 1) = -1) && !decide (mi 293 (eI 0 c 1) = mi 293 (eI 1 c 1)))) := rfl
    rw [hB]
    simp only [wX5_counts_0, wX5_counts_1, wX5_counts_2, wX5_counts_3, wX5_counts_4, wX5_counts_7i, wX5_counts_7r, wX5_counts_7n, wX5_counts_8, wX5_counts_9, wX5_counts_10, wX5_counts_11, wX5_counts_12, wX5_counts_15i, wX5_counts_15r, wX5_counts_15n, wX5_counts_17, wX5_counts_18, wX5_counts_19, wX5_counts_20, wX5_counts_21, wX5_counts_24i, wX5_counts_24r, wX5_counts_24n, wX5_counts_26, wX5_counts_27, wX5_counts_28, wX5_counts_29, wX5_counts_30, wX5_counts_33i, wX5_counts_33r, wX5_counts_33n, wX5_counts_35, wX5_counts_36_0, wX5_counts_36_1, wX5_counts_36_2, wX5_counts_36_3, wX5_counts_36d, wX5_counts_68, wX5_counts_69, wX5_counts_72, wX5_counts_74, wX5_counts_77, wX5_counts_78, wX5_counts_81, wX5_counts_82, wX5_counts_83, wX5_counts_84, wX5_counts_85, wX5_counts_88, wX5_counts_90, wX5_counts_91, wX5_counts_94, wX5_counts_96, wX5_counts_98, wX5_counts_101, wX5_counts_102, wX5_counts_105, wX5_counts_106, wX5_counts_107, wX5_counts_109, wX5_counts_110, wX5_counts_113, wX5_counts_115, wX5_counts_116, wX5_counts_119, wX5_counts_121, wX5_counts_123, wX5_counts_126, wX5_counts_127, wX5_counts_130, wX5_counts_131, wX5_counts_132, wX5_counts_133, wX5_counts_135, wX5_counts_138, wX5_counts_140, wX5_counts_142, wX5_counts_145, wX5_counts_146, wX5_counts_149, wX5_counts_150, wX5_counts_151, wX5_counts_152, wX5_counts_153, wX5_counts_154, wX5_counts_155, wX5_counts_158, wX5_counts_161, wX5_counts_162, wX5_counts_163, wX5_counts_164, wX5_counts_165, wX5_counts_168, wX5_counts_171, wX5_counts_172, wX5_counts_175, wX5_counts_176, h1, cs_0, cs_i, cs_r, m0 z2, m0 o2, m1 z2, m1 o2, aR_1]
    by_cases p1 : mi 293 (eI 0 c 1) = -1 <;> by_cases p2 : mi 293 (eI 1 c 1) = -1 <;> by_cases p3 : mi 293 (eI 0 c 1) = mi 293 (eI 1 c 1) <;> simp only [wX5_counts_0, wX5_counts_1, wX5_counts_2, wX5_counts_3, wX5_counts_4, wX5_counts_7i, wX5_counts_7r, wX5_counts_7n, wX5_counts_8, wX5_counts_9, wX5_counts_10, wX5_counts_11, wX5_counts_12, wX5_counts_15i, wX5_counts_15r, wX5_counts_15n, wX5_counts_17, wX5_counts_18, wX5_counts_19, wX5_counts_20, wX5_counts_21, wX5_counts_24i, wX5_counts_24r, wX5_counts_24n, wX5_counts_26, wX5_counts_27, wX5_counts_28, wX5_counts_29, wX5_counts_30, wX5_counts_33i, wX5_counts_33r, wX5_counts_33n, wX5_counts_35, wX5_counts_36_0, wX5_counts_36_1, wX5_counts_36_2, wX5_counts_36_3, wX5_counts_36d, wX5_counts_68, wX5_counts_69, wX5_counts_72, wX5_counts_74, wX5_counts_77, wX5_counts_78, wX5_counts_81, wX5_counts_82, wX5_counts_83, wX5_counts_84, wX5_counts_85, wX5_counts_88, wX5_counts_90, wX5_counts_91, wX5_counts_94, wX5_counts_96, wX5_counts_98, wX5_counts_101, wX5_counts_102, wX5_counts_105, wX5_counts_106, wX5_counts_107, wX5_counts_109, wX5_counts_110, wX5_counts_113, wX5_counts_115, wX5_counts_116, wX5_counts_119, wX5_counts_121, wX5_counts_123, wX5_counts_126, wX5_counts_127, wX5_counts_130, wX5_counts_131, wX5_counts_132, wX5_counts_133, wX5_counts_135, wX5_counts_138, wX5_counts_140, wX5_counts_142, wX5_counts_145, wX5_counts_146, wX5_counts_149, wX5_counts_150, wX5_counts_151, wX5_counts_152, wX5_counts_153, wX5_counts_154, wX5_counts_155, wX5_counts_158, wX5_counts_161, wX5_counts_162, wX5_counts_163, wX5_counts_164, wX5_counts_165, wX5_counts_168, wX5_counts_171, wX5_counts_172, wX5_counts_175, wX5_counts_176, p1, p2, p3, if_true, if_false, true_or, or_true, decide_true, decide_false, Bool.and_true, Bool.and_false, Bool.true_and, Bool.false_and, bI, Bool.false_eq_true, Bool.not_true, Bool.not_false]
  · have hB : cB (mi 293) 3 c = (decide (nI 6 ≤ mi 293 (eI 0 c 0)) || decide (nI 6 ≤ mi 293 (eI 1 c 0))) := rfl
    rw [hB]
    simp only [wX5_counts_0, wX5_counts_1, wX5_counts_2, wX5_counts_3, wX5_counts_4, wX5_counts_7i, wX5_counts_7r, wX5_counts_7n, wX5_counts_8, wX5_counts_9, wX5_counts_10, wX5_counts_11, wX5_counts_12, wX5_counts_15i, wX5_counts_15r, wX5_counts_15n, wX5_counts_17, wX5_counts_18, wX5_counts_19, wX5_counts_20, wX5_counts_21, wX5_counts_24i, wX5_counts_24r, wX5_counts_24n, wX5_counts_26, wX5_counts_27, wX5_counts_28, wX5_counts_29, wX5_counts_30, wX5_counts_33i, wX5_counts_33r, wX5_counts_33n, wX5_counts_35, wX5_counts_36_0, wX5_counts_36_1, wX5_counts_36_2, wX5_counts_36_3, wX5_counts_36d, wX5_counts_68, wX5_counts_69, wX5_counts_72, wX5_counts_74, wX5_counts_77, wX5_counts_78, wX5_counts_81, wX5_counts_82, wX5_counts_83, wX5_counts_84, wX5_counts_85, wX5_counts_88, wX5_counts_90, wX5_counts_91, wX5_counts_94, wX5_counts_96, wX5_counts_98, wX5_counts_101, wX5_counts_102, wX5_counts_105, wX5_counts_106, wX5_counts_107, wX5_counts_109, wX5_counts_110, wX5_counts_113, wX5_counts_115, wX5_counts_116, wX5_counts_119, wX5_counts_121, wX5_counts_123, wX5_counts_126, wX5_counts_127, wX5_counts_130, wX5_counts_131, wX5_counts_132, wX5_counts_133, wX5_counts_135, wX5_counts_138, wX5_counts_140, wX5_counts_142, wX5_counts_145, wX5_counts_146, wX5_counts_149, wX5_counts_150, wX5_counts_151, wX5_counts_152, wX5_counts_153, wX5_counts_154, wX5_counts_155, wX5_counts_158, wX5_counts_161, wX5_counts_162, wX5_counts_163, wX5_counts_164, wX5_counts_165, wX5_counts_168, wX5_counts_171, wX5_counts_172, wX5_counts_175, wX5_counts_176, h1, cs_0, cs_i, cs_r, m0 z2, m0 o2, m1 z2, m1 o2, aR_1]
    have q2 : (mi 293 (eI 1 c 0) < nI 6) = ¬ nI 6 ≤ mi 293 (eI 1 c 0) := propext Int32.not_le.symm
    by_cases p1 : nI 6 ≤ mi 293 (eI 0 c 0) <;> by_cases p2 : nI 6 ≤ mi 293 (eI 1 c 0) <;> simp only [wX5_counts_0, wX5_counts_1, wX5_counts_2, wX5_counts_3, wX5_counts_4, wX5_counts_7i, wX5_counts_7r, wX5_counts_7n, wX5_counts_8, wX5_counts_9, wX5_counts_10, wX5_counts_11, wX5_counts_12, wX5_counts_15i, wX5_counts_15r, wX5_counts_15n, wX5_counts_17, wX5_counts_18, wX5_counts_19, wX5_counts_20, wX5_counts_21, wX5_counts_24i, wX5_counts_24r, wX5_counts_24n, wX5_counts_26, wX5_counts_27, wX5_counts_28, wX5_counts_29, wX5_counts_30, wX5_counts_33i, wX5_counts_33r, wX5_counts_33n, wX5_counts_35, wX5_counts_36_0, wX5_counts_36_1, wX5_counts_36_2, wX5_counts_36_3, wX5_counts_36d, wX5_counts_68, wX5_counts_69, wX5_counts_72, wX5_counts_74, wX5_counts_77, wX5_counts_78, wX5_counts_81, wX5_counts_82, wX5_counts_83, wX5_counts_84, wX5_counts_85, wX5_counts_88, wX5_counts_90, wX5_counts_91, wX5_counts_94, wX5_counts_96, wX5_counts_98, wX5_counts_101, wX5_counts_102, wX5_counts_105, wX5_counts_106, wX5_counts_107, wX5_counts_109, wX5_counts_110, wX5_counts_113, wX5_counts_115, wX5_counts_116, wX5_counts_119, wX5_counts_121, wX5_counts_123, wX5_counts_126, wX5_counts_127, wX5_counts_130, wX5_counts_131, wX5_counts_132, wX5_counts_133, wX5_counts_135, wX5_counts_138, wX5_counts_140, wX5_counts_142, wX5_counts_145, wX5_counts_146, wX5_counts_149, wX5_counts_150, wX5_counts_151, wX5_counts_152, wX5_counts_153, wX5_counts_154, wX5_counts_155, wX5_counts_158, wX5_counts_161, wX5_counts_162, wX5_counts_163, wX5_counts_164, wX5_counts_165, wX5_counts_168, wX5_counts_171, wX5_counts_172, wX5_counts_175, wX5_counts_176, p1, p2, q2, not_true, not_false_iff, if_true, if_false, true_or, or_true, decide_true, decide_false, Bool.or_true, Bool.or_false, Bool.true_or, Bool.false_or, bI, Bool.false_eq_true]
  · have hB : cB (mi 293) 4 c = (!decide (mi 293 (eI 0 c 4) = nI 0) || !decide (mi 293 (eI 1 c 4) = nI 0)) := rfl
    rw [hB]
    by_cases p1 : mi 293 (eI 0 c 4) = nI 0 <;> by_cases p2 : mi 293 (eI 1 c 4) = nI 0 <;> simp only [wX5_counts_0, wX5_counts_1, wX5_counts_2, wX5_counts_3, wX5_counts_4, wX5_counts_7i, wX5_counts_7r, wX5_counts_7n, wX5_counts_8, wX5_counts_9, wX5_counts_10, wX5_counts_11, wX5_counts_12, wX5_counts_15i, wX5_counts_15r, wX5_counts_15n, wX5_counts_17, wX5_counts_18, wX5_counts_19, wX5_counts_20, wX5_counts_21, wX5_counts_24i, wX5_counts_24r, wX5_counts_24n, wX5_counts_26, wX5_counts_27, wX5_counts_28, wX5_counts_29, wX5_counts_30, wX5_counts_33i, wX5_counts_33r, wX5_counts_33n, wX5_counts_35, wX5_counts_36_0, wX5_counts_36_1, wX5_counts_36_2, wX5_counts_36_3, wX5_counts_36d, wX5_counts_68, wX5_counts_69, wX5_counts_72, wX5_counts_74, wX5_counts_77, wX5_counts_78, wX5_counts_81, wX5_counts_82, wX5_counts_83, wX5_counts_84, wX5_counts_85, wX5_counts_88, wX5_counts_90, wX5_counts_91, wX5_counts_94, wX5_counts_96, wX5_counts_98, wX5_counts_101, wX5_counts_102, wX5_counts_105, wX5_counts_106, wX5_counts_107, wX5_counts_109, wX5_counts_110, wX5_counts_113, wX5_counts_115, wX5_counts_116, wX5_counts_119, wX5_counts_121, wX5_counts_123, wX5_counts_126, wX5_counts_127, wX5_counts_130, wX5_counts_131, wX5_counts_132, wX5_counts_133, wX5_counts_135, wX5_counts_138, wX5_counts_140, wX5_counts_142, wX5_counts_145, wX5_counts_146, wX5_counts_149, wX5_counts_150, wX5_counts_151, wX5_counts_152, wX5_counts_153, wX5_counts_154, wX5_counts_155, wX5_counts_158, wX5_counts_161, wX5_counts_162, wX5_counts_163, wX5_counts_164, wX5_counts_165, wX5_counts_168, wX5_counts_171, wX5_counts_172, wX5_counts_175, wX5_counts_176, h1, cs_0, cs_i, cs_r, m0 z2, m0 o2, m1 z2, m1 o2, m4 z2, m4 o2, aR_1, x4, p1, p2, if_true, if_false, true_or, or_true, decide_true, decide_false, Bool.or_true, Bool.or_false, Bool.true_or, Bool.false_or, bI, Bool.false_eq_true, Bool.not_true, Bool.not_false]
theorem co_loop (hg : MG g mr) (hw : w < 5) (h0 : mi 293 0 = nI C) (hC : C ≤ 12) : ∀ j c, c + j = C → R (d + 3) mX5_countOf 4 [.ref 292, .int (nI w), .int (nI (cO (mi 293) w c)), .int (nI c)] [] g mi ml mr = some (.inl (some (.int (nI (cO (mi 293) w C)))), g, mi, ml, mr) := by
  obtain ⟨h1, h2, h3, -, -, -, -, -, -, h4, -⟩ := id hg
  intro j
  induction j with
  | zero =>
    intro c hc
    have : c = C := by omega
    subst this
    rw [wX5_countOf_4]
    simp only [wX5_countOf_0, wX5_countOf_1i, wX5_countOf_1r, wX5_countOf_1n, wX5_countOf_2, wX5_countOf_3i, wX5_countOf_3r, wX5_countOf_3n, wX5_countOf_5, wX5_countOf_6, wX5_countOf_9, wX5_countOf_10, wX5_countOf_11, wX5_countOf_14, wX5_countOf_15, wX5_countOf_16, wX5_countOf_17, wX5_countOf_18, wX5_countOf_21, wX5_countOf_24, wX5_countOf_25, wX5_countOf_28, wX5_countOf_29, wX5_countOf_30i, wX5_countOf_30r, wX5_countOf_30n, wX5_countOf_31i, wX5_countOf_31r, wX5_countOf_31n, wX5_countOf_34, wX5_countOf_37, wX5_countOf_38, h1, h2, h3, h4, Nat.reduceLT, h0, Int32.le_refl, if_true]
  | succ j ih =>
    intro c hc
    have c1 : ¬ nI C ≤ nI c := by rw [nI_leI (by omega) (by omega)]; omega
    have hc12 : c < 12 := by omega
    have e1 := ih (c + 1) (by omega)
    have e2 : cO (mi 293) w (c + 1) = cO (mi 293) w c + (if cB (mi 293) w c = true then 1 else 0) := rfl
    rw [e2] at e1
    rw [wX5_countOf_4]
    by_cases p : cB (mi 293) w c = true
    · rw [if_pos p] at e1
      simp only [wX5_countOf_0, wX5_countOf_1i, wX5_countOf_1r, wX5_countOf_1n, wX5_countOf_2, wX5_countOf_3i, wX5_countOf_3r, wX5_countOf_3n, wX5_countOf_5, wX5_countOf_6, wX5_countOf_9, wX5_countOf_10, wX5_countOf_11, wX5_countOf_14, wX5_countOf_15, wX5_countOf_16, wX5_countOf_17, wX5_countOf_18, wX5_countOf_21, wX5_countOf_24, wX5_countOf_25, wX5_countOf_28, wX5_countOf_29, wX5_countOf_30i, wX5_countOf_30r, wX5_countOf_30n, wX5_countOf_31i, wX5_countOf_31r, wX5_countOf_31n, wX5_countOf_34, wX5_countOf_37, wX5_countOf_38, h1, h2, h3, h4, Nat.reduceLT, h0, c1, if_false, cs_0, cs_i, cs_r, m_counts hg hc12 hw, aR_1, bI_t p, n1_0, nI_add]
      exact e1
    · rw [if_neg p] at e1
      simp only [wX5_countOf_0, wX5_countOf_1i, wX5_countOf_1r, wX5_countOf_1n, wX5_countOf_2, wX5_countOf_3i, wX5_countOf_3r, wX5_countOf_3n, wX5_countOf_5, wX5_countOf_6, wX5_countOf_9, wX5_countOf_10, wX5_countOf_11, wX5_countOf_14, wX5_countOf_15, wX5_countOf_16, wX5_countOf_17, wX5_countOf_18, wX5_countOf_21, wX5_countOf_24, wX5_countOf_25, wX5_countOf_28, wX5_countOf_29, wX5_countOf_30i, wX5_countOf_30r, wX5_countOf_30n, wX5_countOf_31i, wX5_countOf_31r, wX5_countOf_31n, wX5_countOf_34, wX5_countOf_37, wX5_countOf_38, h1, h2, h3, h4, Nat.reduceLT, h0, c1, if_false, cs_0, cs_i, cs_r, m_counts hg hc12 hw, aR_1, bI_f p, if_true, nI_add]
      exact e1
theorem m_countOf (hg : MG g mr) (hw : w < 5) (h0 : mi 293 0 = nI C) (hC : C ≤ 12) : callT (d + 4) mX5_countOf [.ref 292, .int (nI w)] (g, mi, ml, mr) = some (.inl (some (.int (nI (cO (mi 293) w C)))), g, mi, ml, mr) := by
  rw [eX5_countOf]
  simp only [wX5_countOf_0, wX5_countOf_1i, wX5_countOf_1r, wX5_countOf_1n, wX5_countOf_2, wX5_countOf_3i, wX5_countOf_3r, wX5_countOf_3n, wX5_countOf_5, wX5_countOf_6, wX5_countOf_9, wX5_countOf_10, wX5_countOf_11, wX5_countOf_14, wX5_countOf_15, wX5_countOf_16, wX5_countOf_17, wX5_countOf_18, wX5_countOf_21, wX5_countOf_24, wX5_countOf_25, wX5_countOf_28, wX5_countOf_29, wX5_countOf_30i, wX5_countOf_30r, wX5_countOf_30n, wX5_countOf_31i, wX5_countOf_31r, wX5_countOf_31n, wX5_countOf_34, wX5_countOf_37, wX5_countOf_38]
  exact co_loop hg hw h0 hC C 0 (by omega)
theorem m_count1 (hg : MG g mr) (hM : MS K S (r, q) (r2 mi 293 r) (r2 ml 294 q)) (hw : w < 5) (h0 : r 0 = nI C) (hC : C ≤ 12) : RC g mr (r2 mi 293 r) (r2 ml 294 q) (callT (d + 5) mX5_count [.ref 292, .int (nI w)] (g, r2 mi 293 r, r2 ml 294 q, mr)) 0 (.int (nI (cO r w C))) K S (r, q) := by
  have h1 := hg.1
  have hz : bI (nI 0 ≤ nI w ∧ nI w ≤ nI 4) = nI 1 := bI_t ⟨nI_le (by omega) (by omega), nI_le (by omega) (by omega)⟩
  have hco := m_countOf (d := d) (mi := u2 (r2 mi 293 r) 292 5 (nI 0)) (ml := r2 ml 294 q) hg hw (by rw [u293]; exact h0) hC
  rw [u293] at hco
  rw [eX5_count]
  simp only [wX5_count_0, wX5_count_1, wX5_count_2, wX5_count_3, wX5_count_4, wX5_count_7, wX5_count_10, wX5_count_11, wX5_count_14, wX5_count_15, wX5_count_18, wX5_count_21, wX5_count_22, wX5_count_25, wX5_count_26, wX5_count_27, wX5_count_30, h1, cs_0, cs_i, cs_r, m_in, hz, aR_1, n1_0, if_false, m_refuses hg, bz, if_true, hco]
  exact rcv hM
theorem m_count0 (hg : MG g mr) (hM : MS K S (r, q) (r2 mi 293 r) (r2 ml 294 q)) (hz : ¬ (nI 0 ≤ z ∧ z ≤ nI 4)) : RC g mr (r2 mi 293 r) (r2 ml 294 q) (callT (d + 5) mX5_count [.ref 292, .int z] (g, r2 mi 293 r, r2 ml 294 q, mr)) 1 (.int (nI 0)) K S (r, q) := by
  have h1 := hg.1
  rw [eX5_count]
  simp only [wX5_count_0, wX5_count_1, wX5_count_2, wX5_count_3, wX5_count_4, wX5_count_7, wX5_count_10, wX5_count_11, wX5_count_14, wX5_count_15, wX5_count_18, wX5_count_21, wX5_count_22, wX5_count_25, wX5_count_26, wX5_count_27, wX5_count_30, h1, cs_0, cs_i, cs_r, m_in, bI_f hz, aR_1, n1_0, if_false, m_refuses hg, b1z, if_true]
  exact rcv hM
/-- undo -/
theorem un1 (hg : MG g mr) (hK : mi 292 4 = nI K) (hK3 : K < 3) : ∀ j k, k + j = 480 → R d mX5_undo 33 [.ref 292, .int (nI k)] [] g (r2 mi 293 (cp r 0 k (fun k => mi 295 (480 * K + k)))) ml mr = R d mX5_undo 67 [.ref 292, .int (nI 480)] [] g (r2 mi 293 (cp r 0 480 (fun k => mi 295 (480 * K + k)))) ml mr := by
  obtain ⟨h1, h2, h3, -, -, h5, h6, -, -, h4, -, h7, -⟩ := hg
  intro j
  induction j with
  | zero =>
    intro k hk
    have : k = 480 := by omega
    subst this
    rw [wX5_undo_33]
    simp only [wX5_undo_0, wX5_undo_1, wX5_undo_2, wX5_undo_5, wX5_undo_8, wX5_undo_9, wX5_undo_12, wX5_undo_13, wX5_undo_16, wX5_undo_19, wX5_undo_20, wX5_undo_21, wX5_undo_22, wX5_undo_23, wX5_undo_26, wX5_undo_27, wX5_undo_28, wX5_undo_31, wX5_undo_32i, wX5_undo_32r, wX5_undo_32n, wX5_undo_34, wX5_undo_37, wX5_undo_40, wX5_undo_41, wX5_undo_44, wX5_undo_45, wX5_undo_46, wX5_undo_49, wX5_undo_52, wX5_undo_53, wX5_undo_56, wX5_undo_57, wX5_undo_58, wX5_undo_59, wX5_undo_60, wX5_undo_61i, wX5_undo_61r, wX5_undo_61n, wX5_undo_64, wX5_undo_68i, wX5_undo_68r, wX5_undo_68n, wX5_undo_70, wX5_undo_71, wX5_undo_74, wX5_undo_76, wX5_undo_77, wX5_undo_80, wX5_undo_81, wX5_undo_84, wX5_undo_85, wX5_undo_86, wX5_undo_89, wX5_undo_92, wX5_undo_93, wX5_undo_96, wX5_undo_97, wX5_undo_98, wX5_undo_99, wX5_undo_100, wX5_undo_101i, wX5_undo_101r, wX5_undo_101n, wX5_undo_104, wX5_undo_107, wX5_undo_108, wX5_undo_111, Int32.le_refl, if_true]
  | succ j ih =>
    intro k hk
    have c1 : ¬ nI 480 ≤ nI k := by rw [nI_leI (by omega) (by omega)]; omega
    have b1 : 480 * K + k < 1440 := by omega
    have b2 : 480 * K + k < 2147483648 := by omega
    have b3 : k < 480 := by omega
    have b4 : k < 2147483648 := by omega
    have st : u1 (cp r 0 k (fun k => mi 295 (480 * K + k))) k (mi 295 (480 * K + k)) = cp r 0 (k + 1) (fun k => mi 295 (480 * K + k)) := by have := cp_step (P := r) (a := 0) (n := k) (F := fun k => mi 295 (480 * K + k)); rw [Nat.zero_add] at this; exact this
    rw [wX5_undo_33]
    simp only [wX5_undo_0, wX5_undo_1, wX5_undo_2, wX5_undo_5, wX5_undo_8, wX5_undo_9, wX5_undo_12, wX5_undo_13, wX5_undo_16, wX5_undo_19, wX5_undo_20, wX5_undo_21, wX5_undo_22, wX5_undo_23, wX5_undo_26, wX5_undo_27, wX5_undo_28, wX5_undo_31, wX5_undo_32i, wX5_undo_32r, wX5_undo_32n, wX5_undo_34, wX5_undo_37, wX5_undo_40, wX5_undo_41, wX5_undo_44, wX5_undo_45, wX5_undo_46, wX5_undo_49, wX5_undo_52, wX5_undo_53, wX5_undo_56, wX5_undo_57, wX5_undo_58, wX5_undo_59, wX5_undo_60, wX5_undo_61i, wX5_undo_61r, wX5_undo_61n, wX5_undo_64, wX5_undo_68i, wX5_undo_68r, wX5_undo_68n, wX5_undo_70, wX5_undo_71, wX5_undo_74, wX5_undo_76, wX5_undo_77, wX5_undo_80, wX5_undo_81, wX5_undo_84, wX5_undo_85, wX5_undo_86, wX5_undo_89, wX5_undo_92, wX5_undo_93, wX5_undo_96, wX5_undo_97, wX5_undo_98, wX5_undo_99, wX5_undo_100, wX5_undo_101i, wX5_undo_101r, wX5_undo_101n, wX5_undo_104, wX5_undo_107, wX5_undo_108, wX5_undo_111, c1, if_false, h1, h2, h3, h4, h5, h6, h7, pk_mul, nI_add, b1, b2, b3, b4, r2_s, r2_n (show (292 : Nat) ≠ 293 by decide), r2_n (show (295 : Nat) ≠ 293 by decide), r2_r2, u2_r2, hK, st]
    exact ih (k + 1) (by omega)
theorem un2 (hg : MG g mr) (hK : mi 292 4 = nI K) (hK3 : K < 3) (hn : mi 293 11 = nI n) (hn2 : n ≤ 12500) : ∀ j k, k + j = n → R d mX5_undo 69 [.ref 292, .int (nI k)] [] g mi (r2 ml 294 (cp q 0 k (fun k => ml 296 (12500 * K + k)))) mr = some (.inl (some (.int (nI K))), g, mi, r2 ml 294 (cp q 0 n (fun k => ml 296 (12500 * K + k))), mr) := by
  obtain ⟨h1, h2, h3, h11, h12, h5, h6, h8, h9, h4, h13, h7, h10⟩ := hg
  intro j
  induction j with
  | zero =>
    intro k hk
    have : k = n := by omega
    subst this
    rw [wX5_undo_69]
    simp only [wX5_undo_0, wX5_undo_1, wX5_undo_2, wX5_undo_5, wX5_undo_8, wX5_undo_9, wX5_undo_12, wX5_undo_13, wX5_undo_16, wX5_undo_19, wX5_undo_20, wX5_undo_21, wX5_undo_22, wX5_undo_23, wX5_undo_26, wX5_undo_27, wX5_undo_28, wX5_undo_31, wX5_undo_32i, wX5_undo_32r, wX5_undo_32n, wX5_undo_34, wX5_undo_37, wX5_undo_40, wX5_undo_41, wX5_undo_44, wX5_undo_45, wX5_undo_46, wX5_undo_49, wX5_undo_52, wX5_undo_53, wX5_undo_56, wX5_undo_57, wX5_undo_58, wX5_undo_59, wX5_undo_60, wX5_undo_61i, wX5_undo_61r, wX5_undo_61n, wX5_undo_64, wX5_undo_67, wX5_undo_68i, wX5_undo_68r, wX5_undo_68n, wX5_undo_70, wX5_undo_71, wX5_undo_74, wX5_undo_76, wX5_undo_77, wX5_undo_80, wX5_undo_81, wX5_undo_84, wX5_undo_85, wX5_undo_86, wX5_undo_89, wX5_undo_92, wX5_undo_93, wX5_undo_96, wX5_undo_97, wX5_undo_98, wX5_undo_99, wX5_undo_100, wX5_undo_101i, wX5_undo_101r, wX5_undo_101n, wX5_undo_104, wX5_undo_107, wX5_undo_108, wX5_undo_111, h1, h2, h3, h4, Nat.reduceLT, hn, Int32.le_refl, if_true, hK]
  | succ j ih =>
    intro k hk
    have c1 : ¬ nI n ≤ nI k := by rw [nI_leI (by omega) (by omega)]; omega
    have b1 : 12500 * K + k < 37500 := by omega
    have b2 : 12500 * K + k < 2147483648 := by omega
    have b3 : k < 12500 := by omega
    have b4 : k < 2147483648 := by omega
    have st : u1 (cp q 0 k (fun k => ml 296 (12500 * K + k))) k (ml 296 (12500 * K + k)) = cp q 0 (k + 1) (fun k => ml 296 (12500 * K + k)) := by have := cp_step (P := q) (a := 0) (n := k) (F := fun k => ml 296 (12500 * K + k)); rw [Nat.zero_add] at this; exact this
    rw [wX5_undo_69]
    simp only [wX5_undo_0, wX5_undo_1, wX5_undo_2, wX5_undo_5, wX5_undo_8, wX5_undo_9, wX5_undo_12, wX5_undo_13, wX5_undo_16, wX5_undo_19, wX5_undo_20, wX5_undo_21, wX5_undo_22, wX5_undo_23, wX5_undo_26, wX5_undo_27, wX5_undo_28, wX5_undo_31, wX5_undo_32i, wX5_undo_32r, wX5_undo_32n, wX5_undo_34, wX5_undo_37, wX5_undo_40, wX5_undo_41, wX5_undo_44, wX5_undo_45, wX5_undo_46, wX5_undo_49, wX5_undo_52, wX5_undo_53, wX5_undo_56, wX5_undo_57, wX5_undo_58, wX5_undo_59, wX5_undo_60, wX5_undo_61i, wX5_undo_61r, wX5_undo_61n, wX5_undo_64, wX5_undo_67, wX5_undo_68i, wX5_undo_68r, wX5_undo_68n, wX5_undo_70, wX5_undo_71, wX5_undo_74, wX5_undo_76, wX5_undo_77, wX5_undo_80, wX5_undo_81, wX5_undo_84, wX5_undo_85, wX5_undo_86, wX5_undo_89, wX5_undo_92, wX5_undo_93, wX5_undo_96, wX5_undo_97, wX5_undo_98, wX5_undo_99, wX5_undo_100, wX5_undo_101i, wX5_undo_101r, wX5_undo_101n, wX5_undo_104, wX5_undo_107, wX5_undo_108, wX5_undo_111, c1, if_false, h1, h2, h3, h4, h7, h8, h9, h10, h11, h12, h13, Nat.reduceLT, hn, pk_mul, nI_add, b1, b2, b3, b4, r2_s, r2_n (show (296 : Nat) ≠ 294 by decide), r2_r2, u2_r2, hK, st]
    exact ih (k + 1) (by omega)
theorem cp_congr {α : Type} {F F' P : Nat → α} (h : ∀ k, k < n → F k = F' k) : cp P a n F = cp P a n F' := by
  funext i
  unfold cp
  split
  · exact h _ (by omega)
  · rfl
theorem m_undo1 (hg : MG g mr) (hM : MS (K + 1) S (r, q) (r2 mi 293 r) (r2 ml 294 q)) : RC g mr (r2 mi 293 r) (r2 ml 294 q) (callT (d + 2) mX5_undo [.ref 292] (g, r2 mi 293 r, r2 ml 294 q, mr)) 0 (.int (nI K)) K S (pUn r q (S K)) := by
  have h1 := hg.1
  obtain ⟨m1, m2, ⟨m3, m4⟩, m5⟩ := id hM
  have hs : P1 (r2 mi 293 r 295) (r2 ml 294 q 296) (S K) K := m5 K (Nat.lt_succ_self K)
  rw [r2_n (by decide), r2_n (by decide)] at hs
  rw [r2_n (by decide)] at m3
  obtain ⟨n1, n, n2, n3, n4⟩ := id hs
  have k1 : ¬ nI (K + 1) ≤ nI 0 := by rw [nI_leI (by omega) (by omega)]; omega
  have hkk : nI (K + 1) - nI 1 = nI K := pk_sub (by omega)
  have m3' : u2 (r2 mi 293 r) 292 5 (nI 0) 292 4 = nI (K + 1) := by rw [u2_oth (by decide), r2_n (by decide)]; exact m3
  have e0 : u2 (u2 (r2 mi 293 r) 292 5 (nI 0)) 292 4 (nI K) = r2 (u2 (u2 mi 292 5 (nI 0)) 292 4 (nI K)) 293 r := by
    funext i j
    by_cases hi : i = 293
    · subst hi; rw [u2_row (by decide), u2_row (by decide), r2_s, r2_s]
    · rw [r2_n hi]
      unfold u2
      simp only [r2_n hi]
  generalize hmi2 : u2 (u2 mi 292 5 (nI 0)) 292 4 (nI K) = mi2 at e0
  have q4 : mi2 292 4 = nI K := by rw [← hmi2, u2_at]
  have q5 : mi2 292 5 = nI 0 := by rw [← hmi2, u2_oth (by decide), u2_at]
  have q95 : mi2 295 = mi 295 := by rw [← hmi2, u2_row (by decide), u2_row (by decide)]
  have e1 := un1 (d := d + 1) (mi := mi2) (ml := r2 ml 294 q) (r := r) hg q4 (show K < 3 by omega) 480 0 (by omega)
  rw [cp_0] at e1
  have hF : cp r 0 480 (fun k => mi2 295 (480 * K + k)) = cp r 0 480 (S K).1 := cp_congr (fun k hk => by rw [q95]; exact n1 k hk)
  rw [hF] at e1
  have e2 := un2 (d := d + 1) (mi := r2 mi2 293 (cp r 0 480 (S K).1)) (ml := r2 ml 294 q) (q := q) (n := n) hg (by rw [r2_n (by decide)]; exact q4) (show K < 3 by omega) (by rw [r2_s]; have := cp_in (P := r) (a := 0) (F := (S K).1) (show 11 < 480 by decide); rw [Nat.zero_add] at this; rw [this]; exact n2) n3 n 0 (by omega)
  rw [cp_0, r2_r2] at e2
  have hG : cp q 0 n (fun k => r2 ml 294 q 296 (12500 * K + k)) = cp q 0 n (S K).2 := cp_congr (fun k hk => by rw [r2_n (by decide)]; exact n4 k hk)
  rw [hG, r2_r2] at e2
  have hp : pUn r q (S K) = (cp r 0 480 (S K).1, cp q 0 n (S K).2) := by unfold pUn nM; rw [n2, clampN (by omega)]
  rw [hp, eX5_undo]
  simp only [wX5_undo_0, wX5_undo_1, wX5_undo_2, wX5_undo_5, wX5_undo_8, wX5_undo_9, wX5_undo_12, wX5_undo_13, wX5_undo_16, wX5_undo_19, wX5_undo_20, wX5_undo_21, wX5_undo_22, wX5_undo_23, wX5_undo_26, wX5_undo_27, wX5_undo_28, wX5_undo_31, wX5_undo_32i, wX5_undo_32r, wX5_undo_32n, wX5_undo_34, wX5_undo_37, wX5_undo_40, wX5_undo_41, wX5_undo_44, wX5_undo_45, wX5_undo_46, wX5_undo_49, wX5_undo_52, wX5_undo_53, wX5_undo_56, wX5_undo_57, wX5_undo_58, wX5_undo_59, wX5_undo_60, wX5_undo_61i, wX5_undo_61r, wX5_undo_61n, wX5_undo_64, wX5_undo_67, wX5_undo_68i, wX5_undo_68r, wX5_undo_68n, wX5_undo_70, wX5_undo_71, wX5_undo_74, wX5_undo_76, wX5_undo_77, wX5_undo_80, wX5_undo_81, wX5_undo_84, wX5_undo_85, wX5_undo_86, wX5_undo_89, wX5_undo_92, wX5_undo_93, wX5_undo_96, wX5_undo_97, wX5_undo_98, wX5_undo_99, wX5_undo_100, wX5_undo_101i, wX5_undo_101r, wX5_undo_101n, wX5_undo_104, wX5_undo_107, wX5_undo_108, wX5_undo_111, h1, r2_n (show (292 : Nat) ≠ 293 by decide), m3, k1, if_false, cs_0, cs_i, cs_r, m_refuses hg, aR_1, bz, if_true, m3', hkk, e0]
  rw [e1]
  simp only [wX5_undo_0, wX5_undo_1, wX5_undo_2, wX5_undo_5, wX5_undo_8, wX5_undo_9, wX5_undo_12, wX5_undo_13, wX5_undo_16, wX5_undo_19, wX5_undo_20, wX5_undo_21, wX5_undo_22, wX5_undo_23, wX5_undo_26, wX5_undo_27, wX5_undo_28, wX5_undo_31, wX5_undo_32i, wX5_undo_32r, wX5_undo_32n, wX5_undo_34, wX5_undo_37, wX5_undo_40, wX5_undo_41, wX5_undo_44, wX5_undo_45, wX5_undo_46, wX5_undo_49, wX5_undo_52, wX5_undo_53, wX5_undo_56, wX5_undo_57, wX5_undo_58, wX5_undo_59, wX5_undo_60, wX5_undo_61i, wX5_undo_61r, wX5_undo_61n, wX5_undo_64, wX5_undo_67, wX5_undo_68i, wX5_undo_68r, wX5_undo_68n, wX5_undo_70, wX5_undo_71, wX5_undo_74, wX5_undo_76, wX5_undo_77, wX5_undo_80, wX5_undo_81, wX5_undo_84, wX5_undo_85, wX5_undo_86, wX5_undo_89, wX5_undo_92, wX5_undo_93, wX5_undo_96, wX5_undo_97, wX5_undo_98, wX5_undo_99, wX5_undo_100, wX5_undo_101i, wX5_undo_101r, wX5_undo_101n, wX5_undo_104, wX5_undo_107, wX5_undo_108, wX5_undo_111]
  rw [e2]
  refine ⟨_, _, rfl, ?_, ⟨r2_s, r2_s, ⟨?_, by omega⟩, ?_⟩, ?_, ?_⟩
  · rw [r2_n (by decide)]; exact q5
  · rw [r2_n (by decide)]; exact q4
  · rw [r2_n (by decide), r2_n (by decide), q95]
    rw [r2_n (by decide), r2_n (by decide)] at m5
    exact fun i hi => m5 i (by omega)
  · intro a ha
    rw [r2_n (by omega), r2_n (by omega), ← hmi2, u2_row (by omega), u2_row (by omega)]
  · intro a ha
    rw [r2_n (by omega), r2_n (by omega)]
theorem m_undo0 (hg : MG g mr) (hM : MS 0 S (r, q) (r2 mi 293 r) (r2 ml 294 q)) : RC g mr (r2 mi 293 r) (r2 ml 294 q) (callT (d + 2) mX5_undo [.ref 292] (g, r2 mi 293 r, r2 ml 294 q, mr)) 1 (.int (nI 0)) 0 S (r, q) := by
  have h1 := hg.1
  have m3 := hM.2.2.1.1
  rw [eX5_undo]
  simp only [wX5_undo_0, wX5_undo_1, wX5_undo_2, wX5_undo_5, wX5_undo_8, wX5_undo_9, wX5_undo_12, wX5_undo_13, wX5_undo_16, wX5_undo_19, wX5_undo_20, wX5_undo_21, wX5_undo_22, wX5_undo_23, wX5_undo_26, wX5_undo_27, wX5_undo_28, wX5_undo_31, wX5_undo_32i, wX5_undo_32r, wX5_undo_32n, wX5_undo_34, wX5_undo_37, wX5_undo_40, wX5_undo_41, wX5_undo_44, wX5_undo_45, wX5_undo_46, wX5_undo_49, wX5_undo_52, wX5_undo_53, wX5_undo_56, wX5_undo_57, wX5_undo_58, wX5_undo_59, wX5_undo_60, wX5_undo_61i, wX5_undo_61r, wX5_undo_61n, wX5_undo_64, wX5_undo_67, wX5_undo_68i, wX5_undo_68r, wX5_undo_68n, wX5_undo_70, wX5_undo_71, wX5_undo_74, wX5_undo_76, wX5_undo_77, wX5_undo_80, wX5_undo_81, wX5_undo_84, wX5_undo_85, wX5_undo_86, wX5_undo_89, wX5_undo_92, wX5_undo_93, wX5_undo_96, wX5_undo_97, wX5_undo_98, wX5_undo_99, wX5_undo_100, wX5_undo_101i, wX5_undo_101r, wX5_undo_101n, wX5_undo_104, wX5_undo_107, wX5_undo_108, wX5_undo_111, h1, m3, Int32.le_refl, if_true, cs_0, cs_i, cs_r, m_refuses hg, aR_1, b1z, n1_0, if_false]
  exact rcv hM
end PUB4
