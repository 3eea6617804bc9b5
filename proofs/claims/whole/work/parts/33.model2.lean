/-! the reference: messages -/
def inc (r : Nat → Int32) (j : Nat) : Nat → Int32 := u1 r j (r j + nI 1)
def dec (r : Nat → Int32) (j : Nat) : Nat → Int32 := u1 r j (r j - nI 1)
def pkL (a : Int64) (e c k v : Nat) (n : Int64) : Int64 := ((((a * lN 2 + lN e) * lN 16 + lN c) * lN 16 + lN k) * lN 8 + lN v) * lN 64 + n
def mPos (q : Nat → Int64) (a : Int64) : Nat → Nat
  | 0 => 0
  | n + 1 => if q n / lN 262144 ≤ a then n + 1 else mPos q a n
def shQ {α : Type} (q : Nat → α) (j n : Nat) : Nat → α := fun i => if j < i ∧ i ≤ n then q (i - 1) else q i
def insQ {α : Type} (q : Nat → α) (p n : Nat) (m : α) : Nat → α := fun i => if i = p then m else if p < i ∧ i ≤ n then q (i - 1) else q i
/-- an end's place in the row -/
def eI (e c w : Nat) : Nat := 24 + 9 * (2 * c + e) + w
def mMsg (r : Nat → Int32) (e c k v : Nat) : Int64 := pkL (r 2 + r 1).toInt64 e c k v (if k = 0 then (r (eI e c 1)).toInt64 else lN 0)
/-- a message is sent: the row, the messages (n of them) -/
def mSends (r : Nat → Int32) (q : Nat → Int64) (n e c k v : Nat) : (Nat → Int32) × (Nat → Int64) :=
  if nI 0 < r (3 + e) then (inc (dec (inc r 6) (3 + e)) 7, q) else (inc (inc r 6) 11, insQ q (mPos q (r 2 + r 1).toInt64 n) n (mMsg r e c k v))
section MOD2
variable {d : Nat} {g : Gh} {mi : MI} {ml : ML} {mr : MR} {e c k v n j : Nat} {a m : Int64} {z : Int32} {q : Nat → Int64}
theorem m_arr : callT (d + 1) mX5_arrivalOf [.long m] (g, mi, ml, mr) = some (.inl (some (.long (m / lN 262144))), g, mi, ml, mr) := by
  rw [eX5_arrivalOf]
  have h : ¬ lN 262144 = 0 := by decide
  simp only [wX5_arrivalOf_0, wX5_arrivalOf_1, wX5_arrivalOf_4, wX5_arrivalOf_5, h, not_false_iff]
theorem m_packed (he : e < 2147483648) (hc : c < 2147483648) (hk : k < 2147483648) (hv : v < 2147483648) : callT (d + 1) mX5_packed [.long a, .int (nI e), .int (nI c), .int (nI k), .int (nI v), .int z] (g, mi, ml, mr) = some (.inl (some (.long (pkL a e c k v z.toInt64))), g, mi, ml, mr) := by
  rw [eX5_packed]
  simp only [wX5_packed_0, wX5_packed_1, wX5_packed_4, wX5_packed_5, wX5_packed_6, wX5_packed_7, wX5_packed_8, wX5_packed_11, wX5_packed_12, wX5_packed_13, wX5_packed_14, wX5_packed_15, wX5_packed_18, wX5_packed_19, wX5_packed_21, wX5_packed_22, wX5_packed_23, wX5_packed_26, wX5_packed_27, wX5_packed_29, wX5_packed_30, wX5_packed_31, wX5_packed_34, wX5_packed_35, wX5_packed_37, wX5_packed_38, wX5_packed_39, nI_l (show e < 2 ^ 31 from he), nI_l (show c < 2 ^ 31 from hc), nI_l (show k < 2 ^ 31 from hk), nI_l (show v < 2 ^ 31 from hv), pkL]
theorem shQ_top {α : Type} {q : Nat → α} {n : Nat} : shQ q n n = q := by
  funext i
  unfold shQ
  rw [if_neg (by omega)]
theorem shQ_step {α : Type} {q : Nat → α} {j n : Nat} (h : j + 1 ≤ n) : u1 (shQ q (j + 1) n) (j + 1) (q j) = shQ q j n := by
  funext i
  unfold u1 shQ
  by_cases hi : i = j + 1
  · subst hi
    rw [if_pos rfl, if_pos (by omega), Nat.add_sub_cancel]
  · rw [if_neg hi]
    by_cases h2 : j < i ∧ i ≤ n
    · rw [if_pos h2, if_pos (by omega)]
    · rw [if_neg h2, if_neg (by omega)]
theorem shQ_end {α : Type} {q : Nat → α} {j n : Nat} {m : α} : u1 (shQ q j n) j m = insQ q j n m := by
  funext i
  unfold u1 shQ insQ
  rfl
theorem shQ_at {α : Type} {q : Nat → α} {j n : Nat} : shQ q (j + 1) n j = q j := by
  unfold shQ
  rw [if_neg (by omega)]
theorem m_sendsL (hg : MG g mr) (hn : n < 12500) : ∀ j, j ≤ n → R (d + 1) mX5_sends 98 [.ref 292, .int (nI e), .int (nI c), .int (nI k), .int (nI v), .long a, .null, .long m, .null, .int (nI j)] [] g mi (r2 ml 294 (shQ q j n)) mr = some (.inl none, g, r2 mi 293 (inc (mi 293) 11), r2 ml 294 (insQ q (mPos q a j) n m), mr) := by
  obtain ⟨h1, h2, h3, h5, h6, -, -, -, -, h4, h7, -⟩ := hg
  intro j
  induction j with
  | zero =>
    intro hj
    simp only [wX5_sends_98, wX5_sends_0, wX5_sends_1, wX5_sends_4, wX5_sends_6, wX5_sends_7, wX5_sends_8, wX5_sends_9, wX5_sends_10, wX5_sends_11, wX5_sends_12, wX5_sends_15, wX5_sends_16, wX5_sends_17, wX5_sends_18, wX5_sends_19, wX5_sends_22, wX5_sends_23, wX5_sends_26, wX5_sends_27, wX5_sends_28, wX5_sends_29, wX5_sends_30, wX5_sends_31, wX5_sends_32, wX5_sends_33, wX5_sends_34, wX5_sends_35, wX5_sends_38, wX5_sends_40, wX5_sends_41, wX5_sends_42, wX5_sends_43, wX5_sends_44, wX5_sends_45, wX5_sends_46, wX5_sends_47, wX5_sends_50, wX5_sends_51, wX5_sends_52, wX5_sends_53, wX5_sends_56, wX5_sends_57, wX5_sends_58, wX5_sends_59, wX5_sends_60i, wX5_sends_60r, wX5_sends_60n, wX5_sends_62, wX5_sends_64, wX5_sends_65, wX5_sends_66, wX5_sends_67, wX5_sends_69, wX5_sends_70, wX5_sends_73, wX5_sends_74, wX5_sends_75, wX5_sends_76, wX5_sends_77, wX5_sends_80, wX5_sends_83, wX5_sends_84, wX5_sends_87i, wX5_sends_87r, wX5_sends_87n, wX5_sends_89, wX5_sends_90, wX5_sends_93, wX5_sends_95, wX5_sends_96i, wX5_sends_96r, wX5_sends_96n, wX5_sends_100, wX5_sends_103, wX5_sends_104, wX5_sends_107, wX5_sends_109, wX5_sends_110, wX5_sends_111, wX5_sends_112, wX5_sends_115, wX5_sends_117, wX5_sends_118, wX5_sends_121, wX5_sends_122, wX5_sends_125, wX5_sends_127, wX5_sends_128, wX5_sends_131, wX5_sends_133, wX5_sends_134, wX5_sends_135, wX5_sends_136, wX5_sends_137i, wX5_sends_137r, wX5_sends_137n, wX5_sends_140, wX5_sends_143, wX5_sends_144, wX5_sends_147, wX5_sends_149, wX5_sends_151, wX5_sends_152, wX5_sends_153, wX5_sends_156, wX5_sends_158, wX5_sends_159, wX5_sends_160, wX5_sends_161, wX5_sends_162, wX5_sends_163, Int32.le_refl, if_true, h1, h2, h3, h4, h5, h6, h7, Nat.reduceLT, u2_r2, r2_s, r2_r2, shQ_end, mPos, inc]
  | succ j ih =>
    intro hj
    have c1 : ¬ nI (j + 1) ≤ nI 0 := by rw [nI_leI (by omega) (by omega)]; omega
    have b1 : j < 12500 := by omega
    have b2 : j < 2147483648 := by omega
    have b3 : j + 1 < 12500 := by omega
    have b4 : j + 1 < 2147483648 := by omega
    simp only [wX5_sends_98, wX5_sends_0, wX5_sends_1, wX5_sends_4, wX5_sends_6, wX5_sends_7, wX5_sends_8, wX5_sends_9, wX5_sends_10, wX5_sends_11, wX5_sends_12, wX5_sends_15, wX5_sends_16, wX5_sends_17, wX5_sends_18, wX5_sends_19, wX5_sends_22, wX5_sends_23, wX5_sends_26, wX5_sends_27, wX5_sends_28, wX5_sends_29, wX5_sends_30, wX5_sends_31, wX5_sends_32, wX5_sends_33, wX5_sends_34, wX5_sends_35, wX5_sends_38, wX5_sends_40, wX5_sends_41, wX5_sends_42, wX5_sends_43, wX5_sends_44, wX5_sends_45, wX5_sends_46, wX5_sends_47, wX5_sends_50, wX5_sends_51, wX5_sends_52, wX5_sends_53, wX5_sends_56, wX5_sends_57, wX5_sends_58, wX5_sends_59, wX5_sends_60i, wX5_sends_60r, wX5_sends_60n, wX5_sends_62, wX5_sends_64, wX5_sends_65, wX5_sends_66, wX5_sends_67, wX5_sends_69, wX5_sends_70, wX5_sends_73, wX5_sends_74, wX5_sends_75, wX5_sends_76, wX5_sends_77, wX5_sends_80, wX5_sends_83, wX5_sends_84, wX5_sends_87i, wX5_sends_87r, wX5_sends_87n, wX5_sends_89, wX5_sends_90, wX5_sends_93, wX5_sends_95, wX5_sends_96i, wX5_sends_96r, wX5_sends_96n, wX5_sends_100, wX5_sends_103, wX5_sends_104, wX5_sends_107, wX5_sends_109, wX5_sends_110, wX5_sends_111, wX5_sends_112, wX5_sends_115, wX5_sends_117, wX5_sends_118, wX5_sends_121, wX5_sends_122, wX5_sends_125, wX5_sends_127, wX5_sends_128, wX5_sends_131, wX5_sends_133, wX5_sends_134, wX5_sends_135, wX5_sends_136, wX5_sends_137i, wX5_sends_137r, wX5_sends_137n, wX5_sends_140, wX5_sends_143, wX5_sends_144, wX5_sends_147, wX5_sends_149, wX5_sends_151, wX5_sends_152, wX5_sends_153, wX5_sends_156, wX5_sends_158, wX5_sends_159, wX5_sends_160, wX5_sends_161, wX5_sends_162, wX5_sends_163, c1, if_false, h1, h5, h6, h7, pk_sub (Nat.le_add_left 1 j), Nat.add_sub_cancel, b1, b2, r2_s, cs_0, m_arr, aR_1, shQ_at]
    rw [show (nI 0 : Int32) = 0 from rfl]
    simp only [lg_cmp_le]
    by_cases hc : q j / lN 262144 ≤ a
    · have hp : mPos q a (j + 1) = j + 1 := by show (if _ then _ else _) = _; rw [if_pos hc]
      simp only [hc, if_true, h1, h2, h3, h4, h5, h6, h7, Nat.reduceLT, b3, b4, u2_r2, r2_s, r2_r2, shQ_end, hp, inc, wX5_sends_0, wX5_sends_1, wX5_sends_4, wX5_sends_6, wX5_sends_7, wX5_sends_8, wX5_sends_9, wX5_sends_10, wX5_sends_11, wX5_sends_12, wX5_sends_15, wX5_sends_16, wX5_sends_17, wX5_sends_18, wX5_sends_19, wX5_sends_22, wX5_sends_23, wX5_sends_26, wX5_sends_27, wX5_sends_28, wX5_sends_29, wX5_sends_30, wX5_sends_31, wX5_sends_32, wX5_sends_33, wX5_sends_34, wX5_sends_35, wX5_sends_38, wX5_sends_40, wX5_sends_41, wX5_sends_42, wX5_sends_43, wX5_sends_44, wX5_sends_45, wX5_sends_46, wX5_sends_47, wX5_sends_50, wX5_sends_51, wX5_sends_52, wX5_sends_53, wX5_sends_56, wX5_sends_57, wX5_sends_58, wX5_sends_59, wX5_sends_60i, wX5_sends_60r, wX5_sends_60n, wX5_sends_62, wX5_sends_64, wX5_sends_65, wX5_sends_66, wX5_sends_67, wX5_sends_69, wX5_sends_70, wX5_sends_73, wX5_sends_74, wX5_sends_75, wX5_sends_76, wX5_sends_77, wX5_sends_80, wX5_sends_83, wX5_sends_84, wX5_sends_87i, wX5_sends_87r, wX5_sends_87n, wX5_sends_89, wX5_sends_90, wX5_sends_93, wX5_sends_95, wX5_sends_96i, wX5_sends_96r, wX5_sends_96n, wX5_sends_100, wX5_sends_103, wX5_sends_104, wX5_sends_107, wX5_sends_109, wX5_sends_110, wX5_sends_111, wX5_sends_112, wX5_sends_115, wX5_sends_117, wX5_sends_118, wX5_sends_121, wX5_sends_122, wX5_sends_125, wX5_sends_127, wX5_sends_128, wX5_sends_131, wX5_sends_133, wX5_sends_134, wX5_sends_135, wX5_sends_136, wX5_sends_137i, wX5_sends_137r, wX5_sends_137n, wX5_sends_140, wX5_sends_143, wX5_sends_144, wX5_sends_147, wX5_sends_149, wX5_sends_151, wX5_sends_152, wX5_sends_153, wX5_sends_156, wX5_sends_158, wX5_sends_159, wX5_sends_160, wX5_sends_161, wX5_sends_162, wX5_sends_163]
    · have hp : mPos q a (j + 1) = mPos q a j := by show (if _ then _ else _) = _; rw [if_neg hc]
      simp only [hc, if_false, h1, h5, h6, h7, b1, b2, b3, b4, pk_sub (Nat.le_add_left 1 j), Nat.add_sub_cancel, pk_m1, u2_r2, r2_s, r2_r2, wX5_sends_0, wX5_sends_1, wX5_sends_4, wX5_sends_6, wX5_sends_7, wX5_sends_8, wX5_sends_9, wX5_sends_10, wX5_sends_11, wX5_sends_12, wX5_sends_15, wX5_sends_16, wX5_sends_17, wX5_sends_18, wX5_sends_19, wX5_sends_22, wX5_sends_23, wX5_sends_26, wX5_sends_27, wX5_sends_28, wX5_sends_29, wX5_sends_30, wX5_sends_31, wX5_sends_32, wX5_sends_33, wX5_sends_34, wX5_sends_35, wX5_sends_38, wX5_sends_40, wX5_sends_41, wX5_sends_42, wX5_sends_43, wX5_sends_44, wX5_sends_45, wX5_sends_46, wX5_sends_47, wX5_sends_50, wX5_sends_51, wX5_sends_52, wX5_sends_53, wX5_sends_56, wX5_sends_57, wX5_sends_58, wX5_sends_59, wX5_sends_60i, wX5_sends_60r, wX5_sends_60n, wX5_sends_62, wX5_sends_64, wX5_sends_65, wX5_sends_66, wX5_sends_67, wX5_sends_69, wX5_sends_70, wX5_sends_73, wX5_sends_74, wX5_sends_75, wX5_sends_76, wX5_sends_77, wX5_sends_80, wX5_sends_83, wX5_sends_84, wX5_sends_87i, wX5_sends_87r, wX5_sends_87n, wX5_sends_89, wX5_sends_90, wX5_sends_93, wX5_sends_95, wX5_sends_96i, wX5_sends_96r, wX5_sends_96n, wX5_sends_100, wX5_sends_103, wX5_sends_104, wX5_sends_107, wX5_sends_109, wX5_sends_110, wX5_sends_111, wX5_sends_112, wX5_sends_115, wX5_sends_117, wX5_sends_118, wX5_sends_121, wX5_sends_122, wX5_sends_125, wX5_sends_127, wX5_sends_128, wX5_sends_131, wX5_sends_133, wX5_sends_134, wX5_sends_135, wX5_sends_136, wX5_sends_137i, wX5_sends_137r, wX5_sends_137n, wX5_sends_140, wX5_sends_143, wX5_sends_144, wX5_sends_147, wX5_sends_149, wX5_sends_151, wX5_sends_152, wX5_sends_153, wX5_sends_156, wX5_sends_158, wX5_sends_159, wX5_sends_160, wX5_sends_161, wX5_sends_162, wX5_sends_163]
      rw [shQ_step hj]
      rw [hp]
      exact ih (by omega)
theorem m_sends (hg : MG g mr) (he : e < 2) (hc : c < 12) (hk : k < 16) (hv : v < 8) (hn : mi 293 11 = nI n) (hn2 : n < 12500) : callT (d + 3) mX5_sends [.ref 292, .int (nI e), .int (nI c), .int (nI k), .int (nI v)] (g, mi, ml, mr) = some (.inl none, g, r2 mi 293 (mSends (mi 293) (ml 294) n e c k v).1, r2 ml 294 (mSends (mi 293) (ml 294) n e c k v).2, mr) := by
  have hg' := hg
  obtain ⟨h1, h2, h3, h5, h6, -, -, -, -, h4, h7, -⟩ := hg'
  have b1 : 3 + e < 480 := by omega
  have b2 : 3 + e < 2147483648 := by omega
  have n1 : 3 + e ≠ 6 := by omega
  rw [eX5_sends]
  unfold mSends
  by_cases hl : nI 0 < mi 293 (3 + e)
  · have hl' : ¬ mi 293 (3 + e) ≤ nI 0 := Int32.not_le.mpr hl
    simp only [wX5_sends_0, wX5_sends_1, wX5_sends_4, wX5_sends_6, wX5_sends_7, wX5_sends_8, wX5_sends_9, wX5_sends_10, wX5_sends_11, wX5_sends_12, wX5_sends_15, wX5_sends_16, wX5_sends_17, wX5_sends_18, wX5_sends_19, wX5_sends_22, wX5_sends_23, wX5_sends_26, wX5_sends_27, wX5_sends_28, wX5_sends_29, wX5_sends_30, wX5_sends_31, wX5_sends_32, wX5_sends_33, wX5_sends_34, wX5_sends_35, wX5_sends_38, wX5_sends_40, wX5_sends_41, wX5_sends_42, wX5_sends_43, wX5_sends_44, wX5_sends_45, wX5_sends_46, wX5_sends_47, wX5_sends_50, wX5_sends_51, wX5_sends_52, wX5_sends_53, wX5_sends_56, wX5_sends_57, wX5_sends_58, wX5_sends_59, wX5_sends_60i, wX5_sends_60r, wX5_sends_60n, wX5_sends_62, wX5_sends_64, wX5_sends_65, wX5_sends_66, wX5_sends_67, wX5_sends_69, wX5_sends_70, wX5_sends_73, wX5_sends_74, wX5_sends_75, wX5_sends_76, wX5_sends_77, wX5_sends_80, wX5_sends_83, wX5_sends_84, wX5_sends_87i, wX5_sends_87r, wX5_sends_87n, wX5_sends_89, wX5_sends_90, wX5_sends_93, wX5_sends_95, wX5_sends_96i, wX5_sends_96r, wX5_sends_96n, wX5_sends_100, wX5_sends_103, wX5_sends_104, wX5_sends_107, wX5_sends_109, wX5_sends_110, wX5_sends_111, wX5_sends_112, wX5_sends_115, wX5_sends_117, wX5_sends_118, wX5_sends_121, wX5_sends_122, wX5_sends_125, wX5_sends_127, wX5_sends_128, wX5_sends_131, wX5_sends_133, wX5_sends_134, wX5_sends_135, wX5_sends_136, wX5_sends_137i, wX5_sends_137r, wX5_sends_137n, wX5_sends_140, wX5_sends_143, wX5_sends_144, wX5_sends_147, wX5_sends_149, wX5_sends_151, wX5_sends_152, wX5_sends_153, wX5_sends_156, wX5_sends_158, wX5_sends_159, wX5_sends_160, wX5_sends_161, wX5_sends_162, wX5_sends_163, h1, h2, h3, h4, Nat.reduceLT, u2_r2, r2_s, r2_r2, nI_add, b1, b2, u1_n n1, hl', if_false, hl, if_true, r2_self, inc, dec]
  · have hl' : mi 293 (3 + e) ≤ nI 0 := Int32.not_lt.mp hl
    have e1 : e < 2147483648 := by omega
    have e2 : c < 2147483648 := by omega
    have e3 : k < 2147483648 := by omega
    have e4 : v < 2147483648 := by omega
    have o1 : 24 + 9 * (2 * c + e) + 1 ≠ 6 := by omega
    by_cases hk0 : k = 0
    · subst hk0
      simp only [wX5_sends_0, wX5_sends_1, wX5_sends_4, wX5_sends_6, wX5_sends_7, wX5_sends_8, wX5_sends_9, wX5_sends_10, wX5_sends_11, wX5_sends_12, wX5_sends_15, wX5_sends_16, wX5_sends_17, wX5_sends_18, wX5_sends_19, wX5_sends_22, wX5_sends_23, wX5_sends_26, wX5_sends_27, wX5_sends_28, wX5_sends_29, wX5_sends_30, wX5_sends_31, wX5_sends_32, wX5_sends_33, wX5_sends_34, wX5_sends_35, wX5_sends_38, wX5_sends_40, wX5_sends_41, wX5_sends_42, wX5_sends_43, wX5_sends_44, wX5_sends_45, wX5_sends_46, wX5_sends_47, wX5_sends_50, wX5_sends_51, wX5_sends_52, wX5_sends_53, wX5_sends_56, wX5_sends_57, wX5_sends_58, wX5_sends_59, wX5_sends_60i, wX5_sends_60r, wX5_sends_60n, wX5_sends_62, wX5_sends_64, wX5_sends_65, wX5_sends_66, wX5_sends_67, wX5_sends_69, wX5_sends_70, wX5_sends_73, wX5_sends_74, wX5_sends_75, wX5_sends_76, wX5_sends_77, wX5_sends_80, wX5_sends_83, wX5_sends_84, wX5_sends_87i, wX5_sends_87r, wX5_sends_87n, wX5_sends_89, wX5_sends_90, wX5_sends_93, wX5_sends_95, wX5_sends_96i, wX5_sends_96r, wX5_sends_96n, wX5_sends_100, wX5_sends_103, wX5_sends_104, wX5_sends_107, wX5_sends_109, wX5_sends_110, wX5_sends_111, wX5_sends_112, wX5_sends_115, wX5_sends_117, wX5_sends_118, wX5_sends_121, wX5_sends_122, wX5_sends_125, wX5_sends_127, wX5_sends_128, wX5_sends_131, wX5_sends_133, wX5_sends_134, wX5_sends_135, wX5_sends_136, wX5_sends_137i, wX5_sends_137r, wX5_sends_137n, wX5_sends_140, wX5_sends_143, wX5_sends_144, wX5_sends_147, wX5_sends_149, wX5_sends_151, wX5_sends_152, wX5_sends_153, wX5_sends_156, wX5_sends_158, wX5_sends_159, wX5_sends_160, wX5_sends_161, wX5_sends_162, wX5_sends_163, h1, h2, h3, h4, Nat.reduceLT, u2_r2, r2_s, r2_r2, nI_add, b1, b2, u1_n n1, hl', if_true, hl, if_false, cs_0, cs_i, cs_r, cs_l, m_of hg he hc (show 1 < 9 by decide), aR_1, m_packed e1 e2 e3 e4, u1_n (show (2 : Nat) ≠ 6 by decide), u1_n (show (1 : Nat) ≠ 6 by decide), u1_n (show (11 : Nat) ≠ 6 by decide), u1_n o1, hn, Nat.zero_le]
      have := m_sendsL (d := d + 1) (mi := r2 mi 293 (inc (mi 293) 6)) (ml := ml) (e := e) (c := c) (k := 0) (v := v) (a := (mi 293 2 + mi 293 1).toInt64) (m := mMsg (mi 293) e c 0 v) (q := ml 294) hg hn2 n (Nat.le_refl n)
      rw [shQ_top, r2_self, r2_s, r2_r2] at this
      exact this
    · have hk1 : ¬ nI k = nI 0 := by rw [nI_eq (by omega) (by omega)]; exact hk0
      simp only [wX5_sends_0, wX5_sends_1, wX5_sends_4, wX5_sends_6, wX5_sends_7, wX5_sends_8, wX5_sends_9, wX5_sends_10, wX5_sends_11, wX5_sends_12, wX5_sends_15, wX5_sends_16, wX5_sends_17, wX5_sends_18, wX5_sends_19, wX5_sends_22, wX5_sends_23, wX5_sends_26, wX5_sends_27, wX5_sends_28, wX5_sends_29, wX5_sends_30, wX5_sends_31, wX5_sends_32, wX5_sends_33, wX5_sends_34, wX5_sends_35, wX5_sends_38, wX5_sends_40, wX5_sends_41, wX5_sends_42, wX5_sends_43, wX5_sends_44, wX5_sends_45, wX5_sends_46, wX5_sends_47, wX5_sends_50, wX5_sends_51, wX5_sends_52, wX5_sends_53, wX5_sends_56, wX5_sends_57, wX5_sends_58, wX5_sends_59, wX5_sends_60i, wX5_sends_60r, wX5_sends_60n, wX5_sends_62, wX5_sends_64, wX5_sends_65, wX5_sends_66, wX5_sends_67, wX5_sends_69, wX5_sends_70, wX5_sends_73, wX5_sends_74, wX5_sends_75, wX5_sends_76, wX5_sends_77, wX5_sends_80, wX5_sends_83, wX5_sends_84, wX5_sends_87i, wX5_sends_87r, wX5_sends_87n, wX5_sends_89, wX5_sends_90, wX5_sends_93, wX5_sends_95, wX5_sends_96i, wX5_sends_96r, wX5_sends_96n, wX5_sends_100, wX5_sends_103, wX5_sends_104, wX5_sends_107, wX5_sends_109, wX5_sends_110, wX5_sends_111, wX5_sends_112, wX5_sends_115, wX5_sends_117, wX5_sends_118, wX5_sends_121, wX5_sends_122, wX5_sends_125, wX5_sends_127, wX5_sends_128, wX5_sends_131, wX5_sends_133, wX5_sends_134, wX5_sends_135, wX5_sends_136, wX5_sends_137i, wX5_sends_137r, wX5_sends_137n, wX5_sends_140, wX5_sends_143, wX5_sends_144, wX5_sends_147, wX5_sends_149, wX5_sends_151, wX5_sends_152, wX5_sends_153, wX5_sends_156, wX5_sends_158, wX5_sends_159, wX5_sends_160, wX5_sends_161, wX5_sends_162, wX5_sends_163, h1, h2, h3, h4, Nat.reduceLT, u2_r2, r2_s, r2_r2, nI_add, b1, b2, u1_n n1, hl', if_true, hl, if_false, hk1, cs_0, cs_i, cs_r, cs_l, aR_1, m_packed e1 e2 e3 e4, u1_n (show (2 : Nat) ≠ 6 by decide), u1_n (show (1 : Nat) ≠ 6 by decide), u1_n (show (11 : Nat) ≠ 6 by decide), hn, Nat.zero_le, nI_l (show 0 < 2 ^ 31 by decide)]
      have := m_sendsL (d := d + 1) (mi := r2 mi 293 (inc (mi 293) 6)) (ml := ml) (e := e) (c := c) (k := k) (v := v) (a := (mi 293 2 + mi 293 1).toInt64) (m := mMsg (mi 293) e c k v) (q := ml 294) hg hn2 n (Nat.le_refl n)
      rw [shQ_top, r2_self, r2_s, r2_r2] at this
      unfold mMsg at this ⊢
      rw [if_neg hk0] at this ⊢
      exact this
end MOD2
