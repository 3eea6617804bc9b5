/-! the class: calls' and messages' values; a new beginning -/
section CVL3
variable {s s2 off N n n0 a1 a2 b1 b2 L M e c w k k0 v j f a b d o t D p i C J B E K from_ cnt : Nat} {r r' r1 : Nat → Int32} {q q' : Nat → Int64} {g g' : Gh} {mi mi' m' : MI} {ml ml' l' : ML} {mr mr' : MR} {x1 x2 Ln pm : Nat → Nat} {S : Nat → PS} {P P' : PS} {X : Nat → Nat → Nat} {x y z : Int32}
theorem in_lt (hN : N ≤ 60000) : (nI 0 ≤ x ∧ x ≤ nI N - nI 1) ↔ (¬ x < nI 0 ∧ x < nI N) := by
  constructor
  · intro h
    refine ⟨Int32.not_lt.mpr h.1, ?_⟩
    obtain ⟨j, hj, rfl⟩ := nI_of (x := x) (Int32.not_lt.mpr h.1)
    cases N with
    | zero =>
      have h2 := h.2
      have : nI 0 - nI 1 = -1 := by decide
      rw [this] at h2
      exact absurd (Int32.le_trans h.1 h2) (by decide)
    | succ N =>
      have h2 := h.2
      rw [pk_sub (by omega)] at h2
      have := (nI_leI (by omega) (by omega)).mp h2
      exact nI_lt (by omega) (by omega)
  · intro h
    obtain ⟨j, hj, rfl⟩ := nI_of (x := x) h.1
    have := (nI_ltI (by omega) (by omega)).mp h.2
    refine ⟨Int32.not_lt.mp h.1, ?_⟩
    rw [pk_sub (by omega)]
    exact nI_le (by omega) (by omega)
theorem k_callV1 (h : TG E K S (r, q) pm x1 x2 Ln g mi mr) (hJ : JI X B N t D r q) (hn : n < N) (hw : w < 5) : callT (d + 2) mX4_callValue [.ref 2, .int (nI n), .int (nI w)] (g, mi, ml, mr) = some (.inl (some (.int (r (cI n w)))), g, mi, ml, mr) := by
  obtain ⟨k1, k2, k3, k4, k5⟩ := h.k2
  have hF := hJ.fs
  have hN := hF.2.2.2.1
  have hcs := h.cs
  rw [show nC (r, q).1 = N from hJ.nC] at hcs
  have v3 : mi (Ad (pm 3)) 3 = nI N := (hcs.lv (j := 5) (a := Ad (pm 3)) (by decide) (by decide) rfl rfl).trans hF.2.2.2.2.1
  obtain ⟨⟨⟨-, -, -, c4, -⟩, ⟨-, -, -, -, c10, c11⟩, -, -, c17⟩, -⟩ := id hcs
  obtain ⟨kc, rc⟩ := c17 n (by omega)
  have hka : g.1 (Ad (pm 3) + 3) = 23 ∨ g.1 (Ad (pm 3) + 3) = 24 ∨ g.1 (Ad (pm 3) + 3) = 25 := Or.inr (Or.inl c10)
  have q1 : n < 40 := by omega
  have q2 : n < 2147483648 := by omega
  have c1 : ¬ nI n < nI 0 := nI_nlt (by omega) (by omega)
  have c2 : nI n < nI N := nI_lt hn (by omega)
  rw [eX4_callValue]
  simp only [wX4_callValue_0, wX4_callValue_1, wX4_callValue_4, wX4_callValue_5, wX4_callValue_6, wX4_callValue_9, wX4_callValue_12, wX4_callValue_15, wX4_callValue_18, wX4_callValue_25, wX4_callValue_26, wX4_callValue_27, wX4_callValue_28, wX4_callValue_31, wX4_callValue_32, wX4_callValue_35, wX4_callValue_38, wX4_callValue_39, wX4_callValue_40, wX4_callValue_41, wX4_callValue_44, k1, k2, k3, v3, c1, c2, if_true, if_false, cs_0, cs_i, cs_r, c_reqW1 hw (show 5 < 100 by decide), aR_v, aR_1, c4, hka, c11, q1, q2, rc, kc, c_callVal hcs hn hN hw]
theorem k_callV0 (h : TG (E + 1) K S (r, q) pm x1 x2 Ln g mi mr) (hJ : JI X B N t D r q) (hx : ¬ (nI 0 ≤ x ∧ x ≤ r 5 - nI 1)) : CTx E K S (r, q) g mi ml mr (callT (d + 7) mX4_callValue [.ref 2, .int x, .int z] (g, mi, ml, mr)) "java/lang/IndexOutOfBoundsException" := by
  obtain ⟨⟨h1, h2⟩, -⟩ := h.thr
  obtain ⟨k1, k2, k3, k4, k5⟩ := h.k2
  have hF := hJ.fs
  have v3 : mi (Ad (pm 3)) 3 = nI N := (h.cs.lv (j := 5) (a := Ad (pm 3)) (by decide) (by decide) rfl rfl).trans hF.2.2.2.2.1
  rw [hF.2.2.2.2.1, in_lt (by have := hF.2.2.2.1; omega)] at hx
  rw [eX4_callValue]
  by_cases p : x < nI 0
  · simp only [wX4_callValue_0, wX4_callValue_1, wX4_callValue_4, wX4_callValue_5, wX4_callValue_6, wX4_callValue_9, wX4_callValue_12, wX4_callValue_15, wX4_callValue_18, wX4_callValue_25, wX4_callValue_26, wX4_callValue_27, wX4_callValue_28, wX4_callValue_31, wX4_callValue_32, wX4_callValue_35, wX4_callValue_38, wX4_callValue_39, wX4_callValue_40, wX4_callValue_41, wX4_callValue_44, p, if_true, h1, h2, cs_0]
    exact h.ctx
  · have p2 : ¬ x < nI N := fun h9 => hx ⟨p, h9⟩
    simp only [wX4_callValue_0, wX4_callValue_1, wX4_callValue_4, wX4_callValue_5, wX4_callValue_6, wX4_callValue_9, wX4_callValue_12, wX4_callValue_15, wX4_callValue_18, wX4_callValue_25, wX4_callValue_26, wX4_callValue_27, wX4_callValue_28, wX4_callValue_31, wX4_callValue_32, wX4_callValue_35, wX4_callValue_38, wX4_callValue_39, wX4_callValue_40, wX4_callValue_41, wX4_callValue_44, k1, k2, k3, v3, p, p2, if_false, h1, h2, cs_0]
    exact h.ctx
theorem k_callV2 (h : TG (E + 1) K S (r, q) pm x1 x2 Ln g mi mr) (hJ : JI X B N t D r q) (hx : nI 0 ≤ x ∧ x ≤ r 5 - nI 1) (hz : ¬ (nI 0 ≤ z ∧ z ≤ nI 4)) : CTx E K S (r, q) g mi ml mr (callT (d + 8) mX4_callValue [.ref 2, .int x, .int z] (g, mi, ml, mr)) "java/lang/IllegalArgumentException" := by
  obtain ⟨⟨h1, h2⟩, -⟩ := h.thr
  obtain ⟨k1, k2, k3, k4, k5⟩ := h.k2
  have hF := hJ.fs
  have v3 : mi (Ad (pm 3)) 3 = nI N := (h.cs.lv (j := 5) (a := Ad (pm 3)) (by decide) (by decide) rfl rfl).trans hF.2.2.2.2.1
  rw [hF.2.2.2.2.1, in_lt (by have := hF.2.2.2.1; omega)] at hx
  have hH : mH mX4_callValue = [] := rfl
  rw [eX4_callValue]
  simp only [wX4_callValue_0, wX4_callValue_1, wX4_callValue_4, wX4_callValue_5, wX4_callValue_6, wX4_callValue_9, wX4_callValue_12, wX4_callValue_15, wX4_callValue_18, wX4_callValue_25, wX4_callValue_26, wX4_callValue_27, wX4_callValue_28, wX4_callValue_31, wX4_callValue_32, wX4_callValue_35, wX4_callValue_38, wX4_callValue_39, wX4_callValue_40, wX4_callValue_41, wX4_callValue_44, k1, k2, k3, v3, hx.1, hx.2, if_true, if_false, cs_0, cs_i, cs_r, c_reqW0 (show 4 < 100 by decide) hz h1 h2, aR_x hH]
  exact h.ctx
theorem k_msg1 (h : TG E K S (r, q) pm x1 x2 Ln g mi mr) (hJ : JI X B N t D r q) (h11 : r 11 = nI n) (hn : n ≤ 12500) (hj : j < n) (hw : w < 5) : callT (d + 2) mX4_message [.ref 2, .int (nI j), .int (nI w)] (g, mi, ml, mr) = some (.inl (some (.int (vM r q j w))), g, mi, ml, mr) := by
  obtain ⟨k1, k2, k3, k4, k5⟩ := h.k2
  have hnM : nM r = n := nM_of h11 (by omega)
  have hcs := h.cs
  rw [show nM (r, q).1 = n from hnM] at hcs
  have v5 : mi (Ad (pm 3) + 4) 5 = nI n := by
    have := hcs.2.2.2.1.2.1
    rw [Nat.zero_add] at this
    exact this
  obtain ⟨hh, hb, hJG⟩ := id hJ
  have c1 : ¬ nI j < nI 0 := nI_nlt (by omega) (by omega)
  have c2 : nI j < nI n := nI_lt hj (by omega)
  rw [eX4_message]
  simp only [wX4_message_0, wX4_message_1, wX4_message_4, wX4_message_5, wX4_message_6, wX4_message_9, wX4_message_12, wX4_message_15, wX4_message_18, wX4_message_21, wX4_message_28, wX4_message_29, wX4_message_30, wX4_message_31, wX4_message_34, wX4_message_35, wX4_message_38, wX4_message_41, wX4_message_42, wX4_message_43, wX4_message_46, k1, k2, k3, k4, k5, v5, c1, c2, if_true, if_false, cs_0, cs_i, cs_r, c_reqW1 hw (show 5 < 100 by decide), aR_v, aR_1, c_msgVal hcs hJG.2.1.1 hJG.2.1.2.1 hj hw]
theorem k_msg0 (h : TG (E + 1) K S (r, q) pm x1 x2 Ln g mi mr) (h11 : r 11 = nI n) (hn : n ≤ 12500) (hx : ¬ (nI 0 ≤ x ∧ x ≤ r 11 - nI 1)) : CTx E K S (r, q) g mi ml mr (callT (d + 7) mX4_message [.ref 2, .int x, .int z] (g, mi, ml, mr)) "java/lang/IndexOutOfBoundsException" := by
  obtain ⟨⟨h1, h2⟩, -⟩ := h.thr
  obtain ⟨k1, k2, k3, k4, k5⟩ := h.k2
  have hnM : nM r = n := nM_of h11 (by omega)
  have v5 : mi (Ad (pm 3) + 4) 5 = nI n := by
    have := h.cs.2.2.2.1.2.1
    rw [Nat.zero_add, show nM (r, q).1 = n from hnM] at this
    exact this
  rw [h11, in_lt (by omega)] at hx
  rw [eX4_message]
  by_cases p : x < nI 0
  · simp only [wX4_message_0, wX4_message_1, wX4_message_4, wX4_message_5, wX4_message_6, wX4_message_9, wX4_message_12, wX4_message_15, wX4_message_18, wX4_message_21, wX4_message_28, wX4_message_29, wX4_message_30, wX4_message_31, wX4_message_34, wX4_message_35, wX4_message_38, wX4_message_41, wX4_message_42, wX4_message_43, wX4_message_46, p, if_true, h1, h2, cs_0]
    exact h.ctx
  · have p2 : ¬ x < nI n := fun h9 => hx ⟨p, h9⟩
    simp only [wX4_message_0, wX4_message_1, wX4_message_4, wX4_message_5, wX4_message_6, wX4_message_9, wX4_message_12, wX4_message_15, wX4_message_18, wX4_message_21, wX4_message_28, wX4_message_29, wX4_message_30, wX4_message_31, wX4_message_34, wX4_message_35, wX4_message_38, wX4_message_41, wX4_message_42, wX4_message_43, wX4_message_46, k1, k2, k3, k4, k5, v5, p, p2, if_false, h1, h2, cs_0]
    exact h.ctx
theorem k_msg2 (h : TG (E + 1) K S (r, q) pm x1 x2 Ln g mi mr) (h11 : r 11 = nI n) (hn : n ≤ 12500) (hx : nI 0 ≤ x ∧ x ≤ r 11 - nI 1) (hz : ¬ (nI 0 ≤ z ∧ z ≤ nI 4)) : CTx E K S (r, q) g mi ml mr (callT (d + 8) mX4_message [.ref 2, .int x, .int z] (g, mi, ml, mr)) "java/lang/IllegalArgumentException" := by
  obtain ⟨⟨h1, h2⟩, -⟩ := h.thr
  obtain ⟨k1, k2, k3, k4, k5⟩ := h.k2
  have hnM : nM r = n := nM_of h11 (by omega)
  have v5 : mi (Ad (pm 3) + 4) 5 = nI n := by
    have := h.cs.2.2.2.1.2.1
    rw [Nat.zero_add, show nM (r, q).1 = n from hnM] at this
    exact this
  rw [h11, in_lt (by omega)] at hx
  have hH : mH mX4_message = [] := rfl
  rw [eX4_message]
  simp only [wX4_message_0, wX4_message_1, wX4_message_4, wX4_message_5, wX4_message_6, wX4_message_9, wX4_message_12, wX4_message_15, wX4_message_18, wX4_message_21, wX4_message_28, wX4_message_29, wX4_message_30, wX4_message_31, wX4_message_34, wX4_message_35, wX4_message_38, wX4_message_41, wX4_message_42, wX4_message_43, wX4_message_46, k1, k2, k3, k4, k5, v5, hx.1, hx.2, if_true, if_false, cs_0, cs_i, cs_r, c_reqW0 (show 4 < 100 by decide) hz h1 h2, aR_x hH]
  exact h.ctx
end CVL3
