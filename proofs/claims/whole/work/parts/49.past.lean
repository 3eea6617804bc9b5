/-! the reference: what it keeps of the past -/
def cp {α : Type} (P : Nat → α) (a n : Nat) (f : Nat → α) : Nat → α := fun i => if a ≤ i ∧ i < a + n then f (i - a) else P i
/-- the states that were saved, K of them -/
def PR (P : Nat → Int32) (Q : Nat → Int64) (S : Nat → PS) (K : Nat) : Prop := ∀ i, i < K → (∀ k, k < 480 → P (480 * i + k) = (S i).1 k) ∧ ∃ n, (S i).1 11 = nI n ∧ n ≤ 12500 ∧ ∀ k, k < n → Q (12500 * i + k) = (S i).2 k
def svK (K : Nat) : Nat := if K = 3 then 3 else K + 1
def svS (K : Nat) (S : Nat → PS) (p : PS) : Nat → PS := fun i => if K = 3 then (if i = 2 then p else S (i + 1)) else (if i = K then p else S i)
/-- the reference's state -/
def MS (K : Nat) (S : Nat → PS) (p : PS) (mi : MI) (ml : ML) : Prop := mi 293 = p.1 ∧ ml 294 = p.2 ∧ (mi 292 4 = nI K ∧ K ≤ 3) ∧ PR (mi 295) (ml 296) S K
/-- all else is as it was -/
def FM (mi : MI) (ml : ML) (mi' : MI) (ml' : ML) : Prop := (∀ a, ¬ (a = 292 ∨ a = 293 ∨ a = 295) → mi' a = mi a) ∧ ∀ a, ¬ (a = 292 ∨ a = 294 ∨ a = 296) → ml' a = ml a
section PAST
variable {d : Nat} {g : Gh} {mi mi' mi2 : MI} {ml ml' ml2 : ML} {mr : MR} {f t k n j K : Nat} {P : Nat → Int32} {Q : Nat → Int64} {S : Nat → PS} {p : PS} {z : Int32} {a2 : Value}
section CP
variable {α : Type} {F P : Nat → α} {a i : Nat}
theorem cp_0 : cp P a 0 F = P := by funext i; unfold cp; rw [if_neg (by omega)]
theorem cp_step : u1 (cp P a n F) (a + n) (F n) = cp P a (n + 1) F := by
  funext i
  unfold u1 cp
  by_cases h : i = a + n
  · subst h; rw [if_pos rfl, if_pos (by omega), Nat.add_sub_cancel_left]
  · rw [if_neg h]
    by_cases h2 : a ≤ i ∧ i < a + n
    · rw [if_pos h2, if_pos (by omega)]
    · rw [if_neg h2, if_neg (by omega)]
theorem cp_lo (h : i < a) : cp P a n F i = P i := by unfold cp; rw [if_neg (by omega)]
theorem cp_hi (h : a + n ≤ i) : cp P a n F i = P i := by unfold cp; rw [if_neg (by omega)]
theorem cp_in (h : k < n) : cp P a n F (a + k) = F k := by unfold cp; rw [if_pos (by omega), Nat.add_sub_cancel_left]
end CP
theorem mv1 (hg : MG g mr) (ht : t < f) (hf : f < 3) : ∀ j k, k + j = 480 → R d mX5_moves 2 [.ref 292, .int (nI f), .int (nI t), .int (nI k)] [] g (r2 mi 295 (cp P (480 * t) k (fun k => P (480 * f + k)))) ml mr = R d mX5_moves 39 [.ref 292, .int (nI f), .int (nI t), .int (nI 480)] [] g (r2 mi 295 (cp P (480 * t) 480 (fun k => P (480 * f + k)))) ml mr := by
  obtain ⟨h1, -, -, -, -, h5, h6, -, -, -, -, h7, -⟩ := hg
  intro j
  induction j with
  | zero =>
    intro k hk
    have : k = 480 := by omega
    subst this
    rw [wX5_moves_2]
    simp only [wX5_moves_0, wX5_moves_1i, wX5_moves_1r, wX5_moves_1n, wX5_moves_3, wX5_moves_6, wX5_moves_9, wX5_moves_10, wX5_moves_13, wX5_moves_16, wX5_moves_17, wX5_moves_18, wX5_moves_19, wX5_moves_20, wX5_moves_21, wX5_moves_24, wX5_moves_27, wX5_moves_28, wX5_moves_29, wX5_moves_30, wX5_moves_31, wX5_moves_32, wX5_moves_33i, wX5_moves_33r, wX5_moves_33n, wX5_moves_36, wX5_moves_40i, wX5_moves_40r, wX5_moves_40n, wX5_moves_42, wX5_moves_43, wX5_moves_46, wX5_moves_49, wX5_moves_50, wX5_moves_51, wX5_moves_53, wX5_moves_54, wX5_moves_55, wX5_moves_58, wX5_moves_59, wX5_moves_62, wX5_moves_65, wX5_moves_66, wX5_moves_67, wX5_moves_68, wX5_moves_69, wX5_moves_70, wX5_moves_73, wX5_moves_76, wX5_moves_77, wX5_moves_78, wX5_moves_79, wX5_moves_80, wX5_moves_81, wX5_moves_82i, wX5_moves_82r, wX5_moves_82n, wX5_moves_85, wX5_moves_88, Int32.le_refl, if_true]
  | succ j ih =>
    intro k hk
    have c1 : ¬ nI 480 ≤ nI k := by rw [nI_leI (by omega) (by omega)]; omega
    have b1 : 480 * t + k < 1440 := by omega
    have b2 : 480 * t + k < 2147483648 := by omega
    have b3 : 480 * f + k < 1440 := by omega
    have b4 : 480 * f + k < 2147483648 := by omega
    have rd : cp P (480 * t) k (fun k => P (480 * f + k)) (480 * f + k) = P (480 * f + k) := cp_hi (by omega)
    have st : u1 (cp P (480 * t) k (fun k => P (480 * f + k))) (480 * t + k) (P (480 * f + k)) = cp P (480 * t) (k + 1) (fun k => P (480 * f + k)) := cp_step
    rw [wX5_moves_2]
    simp only [wX5_moves_0, wX5_moves_1i, wX5_moves_1r, wX5_moves_1n, wX5_moves_3, wX5_moves_6, wX5_moves_9, wX5_moves_10, wX5_moves_13, wX5_moves_16, wX5_moves_17, wX5_moves_18, wX5_moves_19, wX5_moves_20, wX5_moves_21, wX5_moves_24, wX5_moves_27, wX5_moves_28, wX5_moves_29, wX5_moves_30, wX5_moves_31, wX5_moves_32, wX5_moves_33i, wX5_moves_33r, wX5_moves_33n, wX5_moves_36, wX5_moves_40i, wX5_moves_40r, wX5_moves_40n, wX5_moves_42, wX5_moves_43, wX5_moves_46, wX5_moves_49, wX5_moves_50, wX5_moves_51, wX5_moves_53, wX5_moves_54, wX5_moves_55, wX5_moves_58, wX5_moves_59, wX5_moves_62, wX5_moves_65, wX5_moves_66, wX5_moves_67, wX5_moves_68, wX5_moves_69, wX5_moves_70, wX5_moves_73, wX5_moves_76, wX5_moves_77, wX5_moves_78, wX5_moves_79, wX5_moves_80, wX5_moves_81, wX5_moves_82i, wX5_moves_82r, wX5_moves_82n, wX5_moves_85, wX5_moves_88, c1, if_false, h1, h5, h6, h7, pk_mul, nI_add, b1, b2, b3, b4, r2_s, r2_r2, u2_r2, rd, st]
    exact ih (k + 1) (by omega)
theorem mv2 (hg : MG g mr) (ht : t < f) (hf : f < 3) (hn : mi 295 (480 * f + 11) = nI n) (hn2 : n ≤ 12500) : ∀ j k, k + j = n → R d mX5_moves 41 [.ref 292, .int (nI f), .int (nI t), .int (nI k)] [] g mi (r2 ml 296 (cp Q (12500 * t) k (fun k => Q (12500 * f + k)))) mr = some (.inl none, g, mi, r2 ml 296 (cp Q (12500 * t) n (fun k => Q (12500 * f + k))), mr) := by
  obtain ⟨h1, -, -, -, -, h5, h6, h8, h9, -, -, h7, h10⟩ := hg
  have b5 : 480 * f + 11 < 1440 := by omega
  have b6 : 480 * f + 11 < 2147483648 := by omega
  intro j
  induction j with
  | zero =>
    intro k hk
    have : k = n := by omega
    subst this
    rw [wX5_moves_41]
    simp only [wX5_moves_0, wX5_moves_1i, wX5_moves_1r, wX5_moves_1n, wX5_moves_3, wX5_moves_6, wX5_moves_9, wX5_moves_10, wX5_moves_13, wX5_moves_16, wX5_moves_17, wX5_moves_18, wX5_moves_19, wX5_moves_20, wX5_moves_21, wX5_moves_24, wX5_moves_27, wX5_moves_28, wX5_moves_29, wX5_moves_30, wX5_moves_31, wX5_moves_32, wX5_moves_33i, wX5_moves_33r, wX5_moves_33n, wX5_moves_36, wX5_moves_39, wX5_moves_40i, wX5_moves_40r, wX5_moves_40n, wX5_moves_42, wX5_moves_43, wX5_moves_46, wX5_moves_49, wX5_moves_50, wX5_moves_51, wX5_moves_53, wX5_moves_54, wX5_moves_55, wX5_moves_58, wX5_moves_59, wX5_moves_62, wX5_moves_65, wX5_moves_66, wX5_moves_67, wX5_moves_68, wX5_moves_69, wX5_moves_70, wX5_moves_73, wX5_moves_76, wX5_moves_77, wX5_moves_78, wX5_moves_79, wX5_moves_80, wX5_moves_81, wX5_moves_82i, wX5_moves_82r, wX5_moves_82n, wX5_moves_85, wX5_moves_88, h1, h5, h6, h7, pk_mul, nI_add, b5, b6, hn, Int32.le_refl, if_true]
  | succ j ih =>
    intro k hk
    have c1 : ¬ nI n ≤ nI k := by rw [nI_leI (by omega) (by omega)]; omega
    have b1 : 12500 * t + k < 37500 := by omega
    have b2 : 12500 * t + k < 2147483648 := by omega
    have b3 : 12500 * f + k < 37500 := by omega
    have b4 : 12500 * f + k < 2147483648 := by omega
    have rd : cp Q (12500 * t) k (fun k => Q (12500 * f + k)) (12500 * f + k) = Q (12500 * f + k) := cp_hi (by omega)
    have st : u1 (cp Q (12500 * t) k (fun k => Q (12500 * f + k))) (12500 * t + k) (Q (12500 * f + k)) = cp Q (12500 * t) (k + 1) (fun k => Q (12500 * f + k)) := cp_step
    rw [wX5_moves_41]
    simp only [wX5_moves_0, wX5_moves_1i, wX5_moves_1r, wX5_moves_1n, wX5_moves_3, wX5_moves_6, wX5_moves_9, wX5_moves_10, wX5_moves_13, wX5_moves_16, wX5_moves_17, wX5_moves_18, wX5_moves_19, wX5_moves_20, wX5_moves_21, wX5_moves_24, wX5_moves_27, wX5_moves_28, wX5_moves_29, wX5_moves_30, wX5_moves_31, wX5_moves_32, wX5_moves_33i, wX5_moves_33r, wX5_moves_33n, wX5_moves_36, wX5_moves_39, wX5_moves_40i, wX5_moves_40r, wX5_moves_40n, wX5_moves_42, wX5_moves_43, wX5_moves_46, wX5_moves_49, wX5_moves_50, wX5_moves_51, wX5_moves_53, wX5_moves_54, wX5_moves_55, wX5_moves_58, wX5_moves_59, wX5_moves_62, wX5_moves_65, wX5_moves_66, wX5_moves_67, wX5_moves_68, wX5_moves_69, wX5_moves_70, wX5_moves_73, wX5_moves_76, wX5_moves_77, wX5_moves_78, wX5_moves_79, wX5_moves_80, wX5_moves_81, wX5_moves_82i, wX5_moves_82r, wX5_moves_82n, wX5_moves_85, wX5_moves_88, c1, if_false, h1, h5, h6, h7, h8, h9, h10, pk_mul, nI_add, b1, b2, b3, b4, b5, b6, hn, r2_s, r2_r2, u2_r2, rd, st]
    exact ih (k + 1) (by omega)
theorem m_moves (hg : MG g mr) (ht : t < f) (hf : f < 3) (hn : mi 295 (480 * f + 11) = nI n) (hn2 : n ≤ 12500) : callT (d + 1) mX5_moves [.ref 292, .int (nI f), .int (nI t)] (g, mi, ml, mr) = some (.inl none, g, r2 mi 295 (cp (mi 295) (480 * t) 480 (fun k => mi 295 (480 * f + k))), r2 ml 296 (cp (ml 296) (12500 * t) n (fun k => ml 296 (12500 * f + k))), mr) := by
  rw [eX5_moves]
  have e1 := mv1 (d := d) (mi := mi) (ml := ml) (P := mi 295) hg ht hf 480 0 (by omega)
  rw [cp_0, r2_self] at e1
  simp only [wX5_moves_0, wX5_moves_1i, wX5_moves_1r, wX5_moves_1n, wX5_moves_3, wX5_moves_6, wX5_moves_9, wX5_moves_10, wX5_moves_13, wX5_moves_16, wX5_moves_17, wX5_moves_18, wX5_moves_19, wX5_moves_20, wX5_moves_21, wX5_moves_24, wX5_moves_27, wX5_moves_28, wX5_moves_29, wX5_moves_30, wX5_moves_31, wX5_moves_32, wX5_moves_33i, wX5_moves_33r, wX5_moves_33n, wX5_moves_36, wX5_moves_39, wX5_moves_40i, wX5_moves_40r, wX5_moves_40n, wX5_moves_42, wX5_moves_43, wX5_moves_46, wX5_moves_49, wX5_moves_50, wX5_moves_51, wX5_moves_53, wX5_moves_54, wX5_moves_55, wX5_moves_58, wX5_moves_59, wX5_moves_62, wX5_moves_65, wX5_moves_66, wX5_moves_67, wX5_moves_68, wX5_moves_69, wX5_moves_70, wX5_moves_73, wX5_moves_76, wX5_moves_77, wX5_moves_78, wX5_moves_79, wX5_moves_80, wX5_moves_81, wX5_moves_82i, wX5_moves_82r, wX5_moves_82n, wX5_moves_85, wX5_moves_88]
  rw [e1]
  simp only [wX5_moves_0, wX5_moves_1i, wX5_moves_1r, wX5_moves_1n, wX5_moves_3, wX5_moves_6, wX5_moves_9, wX5_moves_10, wX5_moves_13, wX5_moves_16, wX5_moves_17, wX5_moves_18, wX5_moves_19, wX5_moves_20, wX5_moves_21, wX5_moves_24, wX5_moves_27, wX5_moves_28, wX5_moves_29, wX5_moves_30, wX5_moves_31, wX5_moves_32, wX5_moves_33i, wX5_moves_33r, wX5_moves_33n, wX5_moves_36, wX5_moves_39, wX5_moves_40i, wX5_moves_40r, wX5_moves_40n, wX5_moves_42, wX5_moves_43, wX5_moves_46, wX5_moves_49, wX5_moves_50, wX5_moves_51, wX5_moves_53, wX5_moves_54, wX5_moves_55, wX5_moves_58, wX5_moves_59, wX5_moves_62, wX5_moves_65, wX5_moves_66, wX5_moves_67, wX5_moves_68, wX5_moves_69, wX5_moves_70, wX5_moves_73, wX5_moves_76, wX5_moves_77, wX5_moves_78, wX5_moves_79, wX5_moves_80, wX5_moves_81, wX5_moves_82i, wX5_moves_82r, wX5_moves_82n, wX5_moves_85, wX5_moves_88]
  have e2 := mv2 (d := d) (mi := r2 mi 295 (cp (mi 295) (480 * t) 480 (fun k => mi 295 (480 * f + k)))) (ml := ml) (Q := ml 296) hg ht hf (by rw [r2_s, cp_hi (by omega)]; exact hn) hn2 n 0 (by omega)
  rw [cp_0, r2_self] at e2
  exact e2
theorem rf1 (hg : MG g mr) (hK : mi 292 4 = nI K) (hK3 : K < 3) : ∀ j k, k + j = 480 → R d mX5_refusesChange 42 [.ref 292, .int z, .int (nI k)] [] g (r2 mi 295 (cp P (480 * K) k (mi 293))) ml mr = R d mX5_refusesChange 76 [.ref 292, .int z, .int (nI 480)] [] g (r2 mi 295 (cp P (480 * K) 480 (mi 293))) ml mr := by
  obtain ⟨h1, h2, h3, -, -, h5, h6, -, -, h4, -, h7, -⟩ := hg
  intro j
  induction j with
  | zero =>
    intro k hk
    have : k = 480 := by omega
    subst this
    rw [wX5_refusesChange_42]
    simp only [wX5_refusesChange_0, wX5_refusesChange_1, wX5_refusesChange_2, wX5_refusesChange_5, wX5_refusesChange_8, wX5_refusesChange_9, wX5_refusesChange_10, wX5_refusesChange_11, wX5_refusesChange_14, wX5_refusesChange_15, wX5_refusesChange_18, wX5_refusesChange_19, wX5_refusesChange_20, wX5_refusesChange_21, wX5_refusesChange_24, wX5_refusesChange_25, wX5_refusesChange_26, wX5_refusesChange_27, wX5_refusesChange_30, wX5_refusesChange_31, wX5_refusesChange_32, wX5_refusesChange_35, wX5_refusesChange_36, wX5_refusesChange_37, wX5_refusesChange_40, wX5_refusesChange_41i, wX5_refusesChange_41r, wX5_refusesChange_41n, wX5_refusesChange_43, wX5_refusesChange_46, wX5_refusesChange_49, wX5_refusesChange_50, wX5_refusesChange_53, wX5_refusesChange_56, wX5_refusesChange_57, wX5_refusesChange_60, wX5_refusesChange_61, wX5_refusesChange_62, wX5_refusesChange_63, wX5_refusesChange_64, wX5_refusesChange_67, wX5_refusesChange_68, wX5_refusesChange_69, wX5_refusesChange_70i, wX5_refusesChange_70r, wX5_refusesChange_70n, wX5_refusesChange_73, wX5_refusesChange_77i, wX5_refusesChange_77r, wX5_refusesChange_77n, wX5_refusesChange_79, wX5_refusesChange_80, wX5_refusesChange_83, wX5_refusesChange_85, wX5_refusesChange_86, wX5_refusesChange_89, wX5_refusesChange_90, wX5_refusesChange_93, wX5_refusesChange_96, wX5_refusesChange_97, wX5_refusesChange_100, wX5_refusesChange_101, wX5_refusesChange_102, wX5_refusesChange_103, wX5_refusesChange_104, wX5_refusesChange_107, wX5_refusesChange_108, wX5_refusesChange_109, wX5_refusesChange_110i, wX5_refusesChange_110r, wX5_refusesChange_110n, wX5_refusesChange_113, wX5_refusesChange_116, wX5_refusesChange_117, wX5_refusesChange_118, wX5_refusesChange_121, wX5_refusesChange_122, wX5_refusesChange_123, wX5_refusesChange_126, wX5_refusesChange_127, Int32.le_refl, if_true]
  | succ j ih =>
    intro k hk
    have c1 : ¬ nI 480 ≤ nI k := by rw [nI_leI (by omega) (by omega)]; omega
    have b1 : 480 * K + k < 1440 := by omega
    have b2 : 480 * K + k < 2147483648 := by omega
    have b3 : k < 480 := by omega
    have b4 : k < 2147483648 := by omega
    rw [wX5_refusesChange_42]
    simp only [wX5_refusesChange_0, wX5_refusesChange_1, wX5_refusesChange_2, wX5_refusesChange_5, wX5_refusesChange_8, wX5_refusesChange_9, wX5_refusesChange_10, wX5_refusesChange_11, wX5_refusesChange_14, wX5_refusesChange_15, wX5_refusesChange_18, wX5_refusesChange_19, wX5_refusesChange_20, wX5_refusesChange_21, wX5_refusesChange_24, wX5_refusesChange_25, wX5_refusesChange_26, wX5_refusesChange_27, wX5_refusesChange_30, wX5_refusesChange_31, wX5_refusesChange_32, wX5_refusesChange_35, wX5_refusesChange_36, wX5_refusesChange_37, wX5_refusesChange_40, wX5_refusesChange_41i, wX5_refusesChange_41r, wX5_refusesChange_41n, wX5_refusesChange_43, wX5_refusesChange_46, wX5_refusesChange_49, wX5_refusesChange_50, wX5_refusesChange_53, wX5_refusesChange_56, wX5_refusesChange_57, wX5_refusesChange_60, wX5_refusesChange_61, wX5_refusesChange_62, wX5_refusesChange_63, wX5_refusesChange_64, wX5_refusesChange_67, wX5_refusesChange_68, wX5_refusesChange_69, wX5_refusesChange_70i, wX5_refusesChange_70r, wX5_refusesChange_70n, wX5_refusesChange_73, wX5_refusesChange_77i, wX5_refusesChange_77r, wX5_refusesChange_77n, wX5_refusesChange_79, wX5_refusesChange_80, wX5_refusesChange_83, wX5_refusesChange_85, wX5_refusesChange_86, wX5_refusesChange_89, wX5_refusesChange_90, wX5_refusesChange_93, wX5_refusesChange_96, wX5_refusesChange_97, wX5_refusesChange_100, wX5_refusesChange_101, wX5_refusesChange_102, wX5_refusesChange_103, wX5_refusesChange_104, wX5_refusesChange_107, wX5_refusesChange_108, wX5_refusesChange_109, wX5_refusesChange_110i, wX5_refusesChange_110r, wX5_refusesChange_110n, wX5_refusesChange_113, wX5_refusesChange_116, wX5_refusesChange_117, wX5_refusesChange_118, wX5_refusesChange_121, wX5_refusesChange_122, wX5_refusesChange_123, wX5_refusesChange_126, wX5_refusesChange_127, c1, if_false, h1, h2, h3, h4, h5, h6, h7, pk_mul, nI_add, b1, b2, b3, b4, r2_s, r2_n (show (292 : Nat) ≠ 295 by decide), r2_n (show (293 : Nat) ≠ 295 by decide), r2_r2, u2_r2, hK, cp_step]
    exact ih (k + 1) (by omega)
theorem rf2 (hg : MG g mr) (hK : mi 292 4 = nI K) (hK3 : K < 3) (hn : mi 293 11 = nI n) (hn2 : n ≤ 12500) : ∀ j k, k + j = n → R d mX5_refusesChange 78 [.ref 292, .int z, .int (nI k)] [] g mi (r2 ml 296 (cp Q (12500 * K) k (ml 294))) mr = some (.inl (some (.int (nI 0))), g, u2 mi 292 4 (nI (K + 1)), r2 ml 296 (cp Q (12500 * K) n (ml 294)), mr) := by
  obtain ⟨h1, h2, h3, h11, h12, h5, h6, h8, h9, h4, h13, h7, h10⟩ := hg
  intro j
  induction j with
  | zero =>
    intro k hk
    have : k = n := by omega
    subst this
    rw [wX5_refusesChange_78]
    simp only [wX5_refusesChange_0, wX5_refusesChange_1, wX5_refusesChange_2, wX5_refusesChange_5, wX5_refusesChange_8, wX5_refusesChange_9, wX5_refusesChange_10, wX5_refusesChange_11, wX5_refusesChange_14, wX5_refusesChange_15, wX5_refusesChange_18, wX5_refusesChange_19, wX5_refusesChange_20, wX5_refusesChange_21, wX5_refusesChange_24, wX5_refusesChange_25, wX5_refusesChange_26, wX5_refusesChange_27, wX5_refusesChange_30, wX5_refusesChange_31, wX5_refusesChange_32, wX5_refusesChange_35, wX5_refusesChange_36, wX5_refusesChange_37, wX5_refusesChange_40, wX5_refusesChange_41i, wX5_refusesChange_41r, wX5_refusesChange_41n, wX5_refusesChange_43, wX5_refusesChange_46, wX5_refusesChange_49, wX5_refusesChange_50, wX5_refusesChange_53, wX5_refusesChange_56, wX5_refusesChange_57, wX5_refusesChange_60, wX5_refusesChange_61, wX5_refusesChange_62, wX5_refusesChange_63, wX5_refusesChange_64, wX5_refusesChange_67, wX5_refusesChange_68, wX5_refusesChange_69, wX5_refusesChange_70i, wX5_refusesChange_70r, wX5_refusesChange_70n, wX5_refusesChange_73, wX5_refusesChange_76, wX5_refusesChange_77i, wX5_refusesChange_77r, wX5_refusesChange_77n, wX5_refusesChange_79, wX5_refusesChange_80, wX5_refusesChange_83, wX5_refusesChange_85, wX5_refusesChange_86, wX5_refusesChange_89, wX5_refusesChange_90, wX5_refusesChange_93, wX5_refusesChange_96, wX5_refusesChange_97, wX5_refusesChange_100, wX5_refusesChange_101, wX5_refusesChange_102, wX5_refusesChange_103, wX5_refusesChange_104, wX5_refusesChange_107, wX5_refusesChange_108, wX5_refusesChange_109, wX5_refusesChange_110i, wX5_refusesChange_110r, wX5_refusesChange_110n, wX5_refusesChange_113, wX5_refusesChange_116, wX5_refusesChange_117, wX5_refusesChange_118, wX5_refusesChange_121, wX5_refusesChange_122, wX5_refusesChange_123, wX5_refusesChange_126, wX5_refusesChange_127, h1, h2, h3, h4, Nat.reduceLT, hn, Int32.le_refl, if_true, hK, nI_add, true_or]
  | succ j ih =>
    intro k hk
    have c1 : ¬ nI n ≤ nI k := by rw [nI_leI (by omega) (by omega)]; omega
    have b1 : 12500 * K + k < 37500 := by omega
    have b2 : 12500 * K + k < 2147483648 := by omega
    have b3 : k < 12500 := by omega
    have b4 : k < 2147483648 := by omega
    rw [wX5_refusesChange_78]
    simp only [wX5_refusesChange_0, wX5_refusesChange_1, wX5_refusesChange_2, wX5_refusesChange_5, wX5_refusesChange_8, wX5_refusesChange_9, wX5_refusesChange_10, wX5_refusesChange_11, wX5_refusesChange_14, wX5_refusesChange_15, wX5_refusesChange_18, wX5_refusesChange_19, wX5_refusesChange_20, wX5_refusesChange_21, wX5_refusesChange_24, wX5_refusesChange_25, wX5_refusesChange_26, wX5_refusesChange_27, wX5_refusesChange_30, wX5_refusesChange_31, wX5_refusesChange_32, wX5_refusesChange_35, wX5_refusesChange_36, wX5_refusesChange_37, wX5_refusesChange_40, wX5_refusesChange_41i, wX5_refusesChange_41r, wX5_refusesChange_41n, wX5_refusesChange_43, wX5_refusesChange_46, wX5_refusesChange_49, wX5_refusesChange_50, wX5_refusesChange_53, wX5_refusesChange_56, wX5_refusesChange_57, wX5_refusesChange_60, wX5_refusesChange_61, wX5_refusesChange_62, wX5_refusesChange_63, wX5_refusesChange_64, wX5_refusesChange_67, wX5_refusesChange_68, wX5_refusesChange_69, wX5_refusesChange_70i, wX5_refusesChange_70r, wX5_refusesChange_70n, wX5_refusesChange_73, wX5_refusesChange_76, wX5_refusesChange_77i, wX5_refusesChange_77r, wX5_refusesChange_77n, wX5_refusesChange_79, wX5_refusesChange_80, wX5_refusesChange_83, wX5_refusesChange_85, wX5_refusesChange_86, wX5_refusesChange_89, wX5_refusesChange_90, wX5_refusesChange_93, wX5_refusesChange_96, wX5_refusesChange_97, wX5_refusesChange_100, wX5_refusesChange_101, wX5_refusesChange_102, wX5_refusesChange_103, wX5_refusesChange_104, wX5_refusesChange_107, wX5_refusesChange_108, wX5_refusesChange_109, wX5_refusesChange_110i, wX5_refusesChange_110r, wX5_refusesChange_110n, wX5_refusesChange_113, wX5_refusesChange_116, wX5_refusesChange_117, wX5_refusesChange_118, wX5_refusesChange_121, wX5_refusesChange_122, wX5_refusesChange_123, wX5_refusesChange_126, wX5_refusesChange_127, c1, if_false, h1, h2, h3, h4, h7, h8, h9, h10, h11, h12, h13, Nat.reduceLT, hn, pk_mul, nI_add, b1, b2, b3, b4, r2_s, r2_n (show (294 : Nat) ≠ 296 by decide), r2_r2, u2_r2, hK, cp_step]
    rw [← u2_r2]
    exact ih (k + 1) (by omega)
theorem rfB (hg : MG g mr) (hK : mi 292 4 = nI K) (hK3 : K < 3) (hn : mi 293 11 = nI n) (hn2 : n ≤ 12500) : R d mX5_refusesChange 40 [.ref 292, .int z, a2] [] g mi ml mr = some (.inl (some (.int (nI 0))), g, u2 (r2 mi 295 (cp (mi 295) (480 * K) 480 (mi 293))) 292 4 (nI (K + 1)), r2 ml 296 (cp (ml 296) (12500 * K) n (ml 294)), mr) := by
  have e1 := rf1 (d := d) (mi := mi) (ml := ml) (z := z) (P := mi 295) hg hK hK3 480 0 (by omega)
  rw [cp_0, r2_self] at e1
  simp only [wX5_refusesChange_0, wX5_refusesChange_1, wX5_refusesChange_2, wX5_refusesChange_5, wX5_refusesChange_8, wX5_refusesChange_9, wX5_refusesChange_10, wX5_refusesChange_11, wX5_refusesChange_14, wX5_refusesChange_15, wX5_refusesChange_18, wX5_refusesChange_19, wX5_refusesChange_20, wX5_refusesChange_21, wX5_refusesChange_24, wX5_refusesChange_25, wX5_refusesChange_26, wX5_refusesChange_27, wX5_refusesChange_30, wX5_refusesChange_31, wX5_refusesChange_32, wX5_refusesChange_35, wX5_refusesChange_36, wX5_refusesChange_37, wX5_refusesChange_40, wX5_refusesChange_41i, wX5_refusesChange_41r, wX5_refusesChange_41n, wX5_refusesChange_43, wX5_refusesChange_46, wX5_refusesChange_49, wX5_refusesChange_50, wX5_refusesChange_53, wX5_refusesChange_56, wX5_refusesChange_57, wX5_refusesChange_60, wX5_refusesChange_61, wX5_refusesChange_62, wX5_refusesChange_63, wX5_refusesChange_64, wX5_refusesChange_67, wX5_refusesChange_68, wX5_refusesChange_69, wX5_refusesChange_70i, wX5_refusesChange_70r, wX5_refusesChange_70n, wX5_refusesChange_73, wX5_refusesChange_76, wX5_refusesChange_77i, wX5_refusesChange_77r, wX5_refusesChange_77n, wX5_refusesChange_79, wX5_refusesChange_80, wX5_refusesChange_83, wX5_refusesChange_85, wX5_refusesChange_86, wX5_refusesChange_89, wX5_refusesChange_90, wX5_refusesChange_93, wX5_refusesChange_96, wX5_refusesChange_97, wX5_refusesChange_100, wX5_refusesChange_101, wX5_refusesChange_102, wX5_refusesChange_103, wX5_refusesChange_104, wX5_refusesChange_107, wX5_refusesChange_108, wX5_refusesChange_109, wX5_refusesChange_110i, wX5_refusesChange_110r, wX5_refusesChange_110n, wX5_refusesChange_113, wX5_refusesChange_116, wX5_refusesChange_117, wX5_refusesChange_118, wX5_refusesChange_121, wX5_refusesChange_122, wX5_refusesChange_123, wX5_refusesChange_126, wX5_refusesChange_127]
  rw [e1]
  simp only [wX5_refusesChange_0, wX5_refusesChange_1, wX5_refusesChange_2, wX5_refusesChange_5, wX5_refusesChange_8, wX5_refusesChange_9, wX5_refusesChange_10, wX5_refusesChange_11, wX5_refusesChange_14, wX5_refusesChange_15, wX5_refusesChange_18, wX5_refusesChange_19, wX5_refusesChange_20, wX5_refusesChange_21, wX5_refusesChange_24, wX5_refusesChange_25, wX5_refusesChange_26, wX5_refusesChange_27, wX5_refusesChange_30, wX5_refusesChange_31, wX5_refusesChange_32, wX5_refusesChange_35, wX5_refusesChange_36, wX5_refusesChange_37, wX5_refusesChange_40, wX5_refusesChange_41i, wX5_refusesChange_41r, wX5_refusesChange_41n, wX5_refusesChange_43, wX5_refusesChange_46, wX5_refusesChange_49, wX5_refusesChange_50, wX5_refusesChange_53, wX5_refusesChange_56, wX5_refusesChange_57, wX5_refusesChange_60, wX5_refusesChange_61, wX5_refusesChange_62, wX5_refusesChange_63, wX5_refusesChange_64, wX5_refusesChange_67, wX5_refusesChange_68, wX5_refusesChange_69, wX5_refusesChange_70i, wX5_refusesChange_70r, wX5_refusesChange_70n, wX5_refusesChange_73, wX5_refusesChange_76, wX5_refusesChange_77i, wX5_refusesChange_77r, wX5_refusesChange_77n, wX5_refusesChange_79, wX5_refusesChange_80, wX5_refusesChange_83, wX5_refusesChange_85, wX5_refusesChange_86, wX5_refusesChange_89, wX5_refusesChange_90, wX5_refusesChange_93, wX5_refusesChange_96, wX5_refusesChange_97, wX5_refusesChange_100, wX5_refusesChange_101, wX5_refusesChange_102, wX5_refusesChange_103, wX5_refusesChange_104, wX5_refusesChange_107, wX5_refusesChange_108, wX5_refusesChange_109, wX5_refusesChange_110i, wX5_refusesChange_110r, wX5_refusesChange_110n, wX5_refusesChange_113, wX5_refusesChange_116, wX5_refusesChange_117, wX5_refusesChange_118, wX5_refusesChange_121, wX5_refusesChange_122, wX5_refusesChange_123, wX5_refusesChange_126, wX5_refusesChange_127]
  have e2 := rf2 (d := d) (mi := r2 mi 295 (cp (mi 295) (480 * K) 480 (mi 293))) (ml := ml) (z := z) (Q := ml 296) hg (by rw [r2_n (by decide)]; exact hK) hK3 (by rw [r2_n (by decide)]; exact hn) hn2 n 0 (by omega)
  rw [cp_0, r2_self] at e2
  exact e2
def P1 (P : Nat → Int32) (Q : Nat → Int64) (s : PS) (i : Nat) : Prop := (∀ k, k < 480 → P (480 * i + k) = s.1 k) ∧ ∃ n, s.1 11 = nI n ∧ n ≤ 12500 ∧ ∀ k, k < n → Q (12500 * i + k) = s.2 k
section P1S
variable {P' : Nat → Int32} {Q' : Nat → Int64} {s : PS} {i m : Nat}
theorem P1.keep (h : P1 P Q s i) (h1 : ∀ k, k < 480 → P' (480 * i + k) = P (480 * i + k)) (h2 : ∀ k, k < 12500 → Q' (12500 * i + k) = Q (12500 * i + k)) : P1 P' Q' s i := by
  obtain ⟨a1, n, a2, a3, a4⟩ := h
  exact ⟨fun k hk => (h1 k hk).trans (a1 k hk), n, a2, a3, fun k hk => (h2 k (by omega)).trans (a4 k hk)⟩
theorem P1.put (hn : s.1 11 = nI n) (hn2 : n ≤ 12500) : P1 (cp P (480 * i) 480 s.1) (cp Q (12500 * i) n s.2) s i := ⟨fun k hk => cp_in hk, n, hn, hn2, fun k hk => cp_in hk⟩
theorem P1.mv (h : P1 P Q s f) (hn : s.1 11 = nI n) (hn2 : n ≤ 12500) : P1 (cp P (480 * t) 480 (fun k => P (480 * f + k))) (cp Q (12500 * t) n (fun k => Q (12500 * f + k))) s t := by
  obtain ⟨a1, n', a2, a3, a4⟩ := h
  have e : n' = n := (nI_eq (by omega) (by omega)).mp (a2.symm.trans hn)
  subst e
  exact ⟨fun k hk => (cp_in hk).trans (a1 k hk), n', a2, a3, fun k hk => (cp_in hk).trans (a4 k hk)⟩
theorem P1.other (h : P1 P Q s i) {F : Nat → Int32} {F' : Nat → Int64} (hi : ¬ i = t) (hn2 : n ≤ 12500) : P1 (cp P (480 * t) 480 F) (cp Q (12500 * t) n F') s i := by
  refine h.keep (fun k hk => ?_) (fun k hk => ?_)
  · by_cases h1 : i < t
    · exact cp_lo (by omega)
    · exact cp_hi (by omega)
  · by_cases h1 : i < t
    · exact cp_lo (by omega)
    · exact cp_hi (by omega)
end P1S
theorem u2_at {α : Type} {F : Nat → Nat → α} {a b : Nat} {v : α} : u2 F a b v a b = v := by rw [u2_r2, r2_s, u1_s]
theorem u2_oth {α : Type} {F : Nat → Nat → α} {a b c e : Nat} {v : α} (h : ¬ (c = a ∧ e = b)) : u2 F a b v c e = F c e := by
  unfold u2
  rw [if_neg h]
theorem u2_row {α : Type} {F : Nat → Nat → α} {a b c : Nat} {v : α} (h : ¬ c = a) : u2 F a b v c = F c := by
  funext e
  exact u2_oth (fun h9 => h h9.1)
/-- a call that changes something: the state is saved -/
theorem m_rfc (hg : MG g mr) (hM : MS K S p mi ml) (hn : p.1 11 = nI n) (hn2 : n ≤ 12500) : ∃ mi' ml', callT (d + 2) mX5_refusesChange [.ref 292, .int (nI 0)] (g, mi, ml, mr) = some (.inl (some (.int (nI 0))), g, mi', ml', mr) ∧ mi' 292 5 = nI 0 ∧ MS (svK K) (svS K S p) p mi' ml' ∧ FM mi ml mi' ml' := by
  have h1 := hg.1
  obtain ⟨m1, m2, ⟨m3, m4⟩, m5⟩ := hM
  have hb : bI (¬ nI 0 = nI 0) = nI 0 := rfl
  rw [eX5_refusesChange]
  simp only [wX5_refusesChange_0, wX5_refusesChange_1, wX5_refusesChange_2, wX5_refusesChange_5, wX5_refusesChange_8, wX5_refusesChange_9, wX5_refusesChange_10, wX5_refusesChange_11, wX5_refusesChange_14, wX5_refusesChange_15, wX5_refusesChange_18, wX5_refusesChange_19, wX5_refusesChange_20, wX5_refusesChange_21, wX5_refusesChange_24, wX5_refusesChange_25, wX5_refusesChange_26, wX5_refusesChange_27, wX5_refusesChange_30, wX5_refusesChange_31, wX5_refusesChange_32, wX5_refusesChange_35, wX5_refusesChange_36, wX5_refusesChange_37, wX5_refusesChange_41i, wX5_refusesChange_41r, wX5_refusesChange_41n, wX5_refusesChange_43, wX5_refusesChange_46, wX5_refusesChange_49, wX5_refusesChange_50, wX5_refusesChange_53, wX5_refusesChange_56, wX5_refusesChange_57, wX5_refusesChange_60, wX5_refusesChange_61, wX5_refusesChange_62, wX5_refusesChange_63, wX5_refusesChange_64, wX5_refusesChange_67, wX5_refusesChange_68, wX5_refusesChange_69, wX5_refusesChange_70i, wX5_refusesChange_70r, wX5_refusesChange_70n, wX5_refusesChange_73, wX5_refusesChange_76, wX5_refusesChange_77i, wX5_refusesChange_77r, wX5_refusesChange_77n, wX5_refusesChange_79, wX5_refusesChange_80, wX5_refusesChange_83, wX5_refusesChange_85, wX5_refusesChange_86, wX5_refusesChange_89, wX5_refusesChange_90, wX5_refusesChange_93, wX5_refusesChange_96, wX5_refusesChange_97, wX5_refusesChange_100, wX5_refusesChange_101, wX5_refusesChange_102, wX5_refusesChange_103, wX5_refusesChange_104, wX5_refusesChange_107, wX5_refusesChange_108, wX5_refusesChange_109, wX5_refusesChange_110i, wX5_refusesChange_110r, wX5_refusesChange_110n, wX5_refusesChange_113, wX5_refusesChange_116, wX5_refusesChange_117, wX5_refusesChange_118, wX5_refusesChange_121, wX5_refusesChange_122, wX5_refusesChange_123, wX5_refusesChange_126, wX5_refusesChange_127, h1, cs_0, m_refuses hg, aR_1, hb, if_true, u2_oth (show ¬ ((292 : Nat) = 292 ∧ (4 : Nat) = 5) by decide), m3]
  have g3 : u2 mi 292 5 (nI 0) 293 = p.1 := by rw [u2_row (by decide)]; exact m1
  have g5 : u2 mi 292 5 (nI 0) 295 = mi 295 := u2_row (by decide)
  by_cases hK : K = 3
  · subst hK
    simp only [if_true, wX5_refusesChange_0, wX5_refusesChange_1, wX5_refusesChange_2, wX5_refusesChange_5, wX5_refusesChange_8, wX5_refusesChange_9, wX5_refusesChange_10, wX5_refusesChange_11, wX5_refusesChange_14, wX5_refusesChange_15, wX5_refusesChange_18, wX5_refusesChange_19, wX5_refusesChange_20, wX5_refusesChange_21, wX5_refusesChange_24, wX5_refusesChange_25, wX5_refusesChange_26, wX5_refusesChange_27, wX5_refusesChange_30, wX5_refusesChange_31, wX5_refusesChange_32, wX5_refusesChange_35, wX5_refusesChange_36, wX5_refusesChange_37, wX5_refusesChange_41i, wX5_refusesChange_41r, wX5_refusesChange_41n, wX5_refusesChange_43, wX5_refusesChange_46, wX5_refusesChange_49, wX5_refusesChange_50, wX5_refusesChange_53, wX5_refusesChange_56, wX5_refusesChange_57, wX5_refusesChange_60, wX5_refusesChange_61, wX5_refusesChange_62, wX5_refusesChange_63, wX5_refusesChange_64, wX5_refusesChange_67, wX5_refusesChange_68, wX5_refusesChange_69, wX5_refusesChange_70i, wX5_refusesChange_70r, wX5_refusesChange_70n, wX5_refusesChange_73, wX5_refusesChange_76, wX5_refusesChange_77i, wX5_refusesChange_77r, wX5_refusesChange_77n, wX5_refusesChange_79, wX5_refusesChange_80, wX5_refusesChange_83, wX5_refusesChange_85, wX5_refusesChange_86, wX5_refusesChange_89, wX5_refusesChange_90, wX5_refusesChange_93, wX5_refusesChange_96, wX5_refusesChange_97, wX5_refusesChange_100, wX5_refusesChange_101, wX5_refusesChange_102, wX5_refusesChange_103, wX5_refusesChange_104, wX5_refusesChange_107, wX5_refusesChange_108, wX5_refusesChange_109, wX5_refusesChange_110i, wX5_refusesChange_110r, wX5_refusesChange_110n, wX5_refusesChange_113, wX5_refusesChange_116, wX5_refusesChange_117, wX5_refusesChange_118, wX5_refusesChange_121, wX5_refusesChange_122, wX5_refusesChange_123, wX5_refusesChange_126, wX5_refusesChange_127, h1, cs_0]
    have s1 : P1 (mi 295) (ml 296) (S 1) 1 := m5 1 (by decide)
    have s2 : P1 (mi 295) (ml 296) (S 2) 2 := m5 2 (by decide)
    obtain ⟨-, n1, x1, x2, -⟩ := id s1
    obtain ⟨-, n2, y1, y2, -⟩ := id s2
    have e1 := m_moves (d := d) (ml := ml) hg (mi := u2 mi 292 5 (nI 0)) (f := 1) (t := 0) (n := n1) (by decide) (by decide) (by rw [g5, s1.1 11 (by decide)]; exact x1) x2
    rw [g5] at e1
    have s1' := s1.mv (t := 0) x1 x2
    have s2' := s2.other (t := 0) (F := fun k => mi 295 (480 * 1 + k)) (F' := fun k => ml 296 (12500 * 1 + k)) (by decide) x2
    generalize hP : cp (mi 295) (480 * 0) 480 (fun k => mi 295 (480 * 1 + k)) = P2 at e1 s1' s2'
    generalize hQ : cp (ml 296) (12500 * 0) n1 (fun k => ml 296 (12500 * 1 + k)) = Q2 at e1 s1' s2'
    have e2 := m_moves (d := d) (ml := r2 ml 296 Q2) hg (mi := r2 (u2 mi 292 5 (nI 0)) 295 P2) (f := 2) (t := 1) (n := n2) (by decide) (by decide) (by rw [r2_s, s2'.1 11 (by decide)]; exact y1) y2
    rw [r2_s, r2_s, r2_r2, r2_r2] at e2
    have s1'' := s1'.other (t := 1) (F := fun k => P2 (480 * 2 + k)) (F' := fun k => Q2 (12500 * 2 + k)) (by decide) y2
    have s2'' := s2'.mv (t := 1) y1 y2
    generalize cp P2 (480 * 1) 480 (fun k => P2 (480 * 2 + k)) = P3 at e2 s1'' s2''
    generalize cp Q2 (12500 * 1) n2 (fun k => Q2 (12500 * 2 + k)) = Q3 at e2 s1'' s2''
    have k4 : r2 (u2 mi 292 5 (nI 0)) 295 P3 292 4 = nI 3 := by rw [r2_n (by decide), u2_oth (by decide)]; exact m3
    have n32 : nI 3 - nI 1 = nI 2 := by decide
    simp only [e1, e2, aR_v, wX5_refusesChange_0, wX5_refusesChange_1, wX5_refusesChange_2, wX5_refusesChange_5, wX5_refusesChange_8, wX5_refusesChange_9, wX5_refusesChange_10, wX5_refusesChange_11, wX5_refusesChange_14, wX5_refusesChange_15, wX5_refusesChange_18, wX5_refusesChange_19, wX5_refusesChange_20, wX5_refusesChange_21, wX5_refusesChange_24, wX5_refusesChange_25, wX5_refusesChange_26, wX5_refusesChange_27, wX5_refusesChange_30, wX5_refusesChange_31, wX5_refusesChange_32, wX5_refusesChange_35, wX5_refusesChange_36, wX5_refusesChange_37, wX5_refusesChange_41i, wX5_refusesChange_41r, wX5_refusesChange_41n, wX5_refusesChange_43, wX5_refusesChange_46, wX5_refusesChange_49, wX5_refusesChange_50, wX5_refusesChange_53, wX5_refusesChange_56, wX5_refusesChange_57, wX5_refusesChange_60, wX5_refusesChange_61, wX5_refusesChange_62, wX5_refusesChange_63, wX5_refusesChange_64, wX5_refusesChange_67, wX5_refusesChange_68, wX5_refusesChange_69, wX5_refusesChange_70i, wX5_refusesChange_70r, wX5_refusesChange_70n, wX5_refusesChange_73, wX5_refusesChange_76, wX5_refusesChange_77i, wX5_refusesChange_77r, wX5_refusesChange_77n, wX5_refusesChange_79, wX5_refusesChange_80, wX5_refusesChange_83, wX5_refusesChange_85, wX5_refusesChange_86, wX5_refusesChange_89, wX5_refusesChange_90, wX5_refusesChange_93, wX5_refusesChange_96, wX5_refusesChange_97, wX5_refusesChange_100, wX5_refusesChange_101, wX5_refusesChange_102, wX5_refusesChange_103, wX5_refusesChange_104, wX5_refusesChange_107, wX5_refusesChange_108, wX5_refusesChange_109, wX5_refusesChange_110i, wX5_refusesChange_110r, wX5_refusesChange_110n, wX5_refusesChange_113, wX5_refusesChange_116, wX5_refusesChange_117, wX5_refusesChange_118, wX5_refusesChange_121, wX5_refusesChange_122, wX5_refusesChange_123, wX5_refusesChange_126, wX5_refusesChange_127, h1, cs_0, k4, n32]
    have e3 := rfB (d := d + 1) (mi := u2 (r2 (u2 mi 292 5 (nI 0)) 295 P3) 292 4 (nI 2)) (ml := r2 ml 296 Q3) (z := nI 0) (K := 2) (n := n) (a2 := .null) hg u2_at (by decide) (by rw [u2_row (by decide), r2_n (by decide), g3]; exact hn) hn2
    rw [e3]
    refine ⟨_, _, rfl, ?_, ⟨?_, ?_, ⟨?_, ?_⟩, ?_⟩, ?_, ?_⟩
    · rw [u2_oth (by decide), r2_n (by decide), u2_oth (by decide), r2_n (by decide), u2_at]
    · rw [u2_row (by decide), r2_n (by decide), u2_row (by decide), r2_n (by decide)]; exact g3
    · rw [r2_n (by decide), r2_n (by decide)]; exact m2
    · rw [u2_at]; rfl
    · exact Nat.le_refl 3
    · rw [u2_row (by decide), r2_s, r2_s, u2_row (by decide), u2_row (by decide), r2_s, r2_s, r2_n (show (293 : Nat) ≠ 295 by decide), g3, r2_n (show (294 : Nat) ≠ 296 by decide), m2]
      intro i hi
      have hi3 : i = 0 ∨ i = 1 ∨ i = 2 := by have : i < 3 := hi; omega
      rcases hi3 with rfl | rfl | rfl
      · exact s1''.other (by decide) hn2
      · exact s2''.other (by decide) hn2
      · exact P1.put hn hn2
    · intro a ha
      rw [u2_row (by omega), r2_n (by omega), u2_row (by omega), r2_n (by omega), u2_row (by omega)]
    · intro a ha
      rw [r2_n (by omega), r2_n (by omega)]
  · have hK3 : K < 3 := by omega
    have hk' : ¬ nI K = nI 3 := fun h9 => hK ((nI_eq (by omega) (by decide)).mp h9)
    simp only [hk', if_false]
    have e3 := rfB (d := d + 1) (mi := u2 mi 292 5 (nI 0)) (ml := ml) (z := nI 0) (n := n) (a2 := .null) hg (by rw [u2_oth (by decide)]; exact m3) hK3 (by rw [g3]; exact hn) hn2
    rw [e3]
    refine ⟨_, _, rfl, ?_, ⟨?_, ?_, ⟨?_, ?_⟩, ?_⟩, ?_, ?_⟩
    · rw [u2_oth (by decide), r2_n (by decide), u2_at]
    · rw [u2_row (by decide), r2_n (by decide)]; exact g3
    · rw [r2_n (by decide)]; exact m2
    · rw [u2_at]; unfold svK; rw [if_neg hK]
    · unfold svK; rw [if_neg hK]; omega
    · rw [u2_row (by decide), r2_s, r2_s, g5, g3, m2]
      unfold svK svS
      rw [if_neg hK]
      intro i hi
      show P1 (cp (mi 295) (480 * K) 480 p.1) (cp (ml 296) (12500 * K) n p.2) (if K = 3 then if i = 2 then p else S (i + 1) else if i = K then p else S i) i
      rw [if_neg hK]
      by_cases hik : i = K
      · subst hik; rw [if_pos rfl]; exact P1.put hn hn2
      · rw [if_neg hik]
        have : P1 (mi 295) (ml 296) (S i) i := m5 i (by omega)
        exact this.other hik hn2
    · intro a ha
      rw [u2_row (by omega), r2_n (by omega), u2_row (by omega)]
    · intro a ha
      rw [r2_n (by omega)]
/-- a call that is refused -/
theorem m_rfx (hg : MG g mr) (hM : MS K S p mi ml) (hk : ¬ nI k = nI 0) : ∃ mi', callT (d + 2) mX5_refusesChange [.ref 292, .int (nI k)] (g, mi, ml, mr) = some (.inl (some (.int (nI 1))), g, mi', ml, mr) ∧ mi' 292 5 = nI k ∧ MS K S p mi' ml ∧ FM mi ml mi' ml := by
  have h1 := hg.1
  obtain ⟨m1, m2, ⟨m3, m4⟩, m5⟩ := hM
  rw [eX5_refusesChange]
  simp only [wX5_refusesChange_0, wX5_refusesChange_1, wX5_refusesChange_2, wX5_refusesChange_5, wX5_refusesChange_8, wX5_refusesChange_9, wX5_refusesChange_10, wX5_refusesChange_11, wX5_refusesChange_14, wX5_refusesChange_15, wX5_refusesChange_18, wX5_refusesChange_19, wX5_refusesChange_20, wX5_refusesChange_21, wX5_refusesChange_24, wX5_refusesChange_25, wX5_refusesChange_26, wX5_refusesChange_27, wX5_refusesChange_30, wX5_refusesChange_31, wX5_refusesChange_32, wX5_refusesChange_35, wX5_refusesChange_36, wX5_refusesChange_37, wX5_refusesChange_40, wX5_refusesChange_41i, wX5_refusesChange_41r, wX5_refusesChange_41n, wX5_refusesChange_43, wX5_refusesChange_46, wX5_refusesChange_49, wX5_refusesChange_50, wX5_refusesChange_53, wX5_refusesChange_56, wX5_refusesChange_57, wX5_refusesChange_60, wX5_refusesChange_61, wX5_refusesChange_62, wX5_refusesChange_63, wX5_refusesChange_64, wX5_refusesChange_67, wX5_refusesChange_68, wX5_refusesChange_69, wX5_refusesChange_70i, wX5_refusesChange_70r, wX5_refusesChange_70n, wX5_refusesChange_73, wX5_refusesChange_76, wX5_refusesChange_77i, wX5_refusesChange_77r, wX5_refusesChange_77n, wX5_refusesChange_79, wX5_refusesChange_80, wX5_refusesChange_83, wX5_refusesChange_85, wX5_refusesChange_86, wX5_refusesChange_89, wX5_refusesChange_90, wX5_refusesChange_93, wX5_refusesChange_96, wX5_refusesChange_97, wX5_refusesChange_100, wX5_refusesChange_101, wX5_refusesChange_102, wX5_refusesChange_103, wX5_refusesChange_104, wX5_refusesChange_107, wX5_refusesChange_108, wX5_refusesChange_109, wX5_refusesChange_110i, wX5_refusesChange_110r, wX5_refusesChange_110n, wX5_refusesChange_113, wX5_refusesChange_116, wX5_refusesChange_117, wX5_refusesChange_118, wX5_refusesChange_121, wX5_refusesChange_122, wX5_refusesChange_123, wX5_refusesChange_126, wX5_refusesChange_127, h1, cs_0, m_refuses hg, aR_1, bI, hk, not_false_iff, if_true, n1_0, if_false, or_true]
  refine ⟨_, rfl, u2_at, ⟨?_, m2, ⟨?_, m4⟩, ?_⟩, fun a ha => u2_row (by omega), fun a _ => rfl⟩
  · rw [u2_row (by decide)]; exact m1
  · rw [u2_oth (by decide)]; exact m3
  · rw [u2_row (by decide)]; exact m5
end PAST
