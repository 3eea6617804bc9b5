/-! the class: states copied -/
section CCP2
variable {s s2 off N n n0 a1 a2 b1 b2 L M e c w k v j f a d o z x y S t D p i C J B lo hi : Nat} {r r' r1 : Nat → Int32} {q : Nat → Int64} {g g' : Gh} {mi mi' : MI} {ml ml' : ML} {mr mr' : MR} {P P' : Nat → Nat → Bool} {b3 : Bool} {X : Nat → Nat → Nat} {β T hh hb : Nat → Nat} {A : Nat × Nat}
/-- what a state is made of, whatever it holds -/
def DS (s b1 b2 M : Nat) (g : Gh) (mi : MI) (mr : MR) : Prop := SG s g mr ∧ SA s b1 b2 M g mr ∧ CX s mi
theorem CS.ds (h : CS s off N n a1 a2 L r q g mi mr) : DS s a1 a2 L g mi mr := ⟨h.1, h.2.1, h.2.2.1.2.2⟩
/-- the link is copied -/
theorem c_linkCopy (h1 : SG s g mr) (h2 : SA s b1 b2 M g mr) (k1 : SG s2 g mr) (k2 : SA s2 a1 a2 L g mr) (hd : s2 + 72 ≤ s ∨ s + 72 ≤ s2) (hsz : mi (s2 + 4) 5 = nI n) (hn : n ≤ L) (d11 : ¬ a1 = b1) (d12 : ¬ a1 = b2) (d21 : ¬ a2 = b1) (d22 : ¬ a2 = b2) (hR : RmC M g) : ∃ c1 c2 M' g' m' l' r', callT (d + 2) mX2_copyFrom [.ref (s + 4), .ref (s2 + 4)] (g, mi, ml, mr) = some (.inl none, g', m', l', r') ∧ SA s c1 c2 M' g' r' ∧ n ≤ M' ∧ (∀ f, f < 4 → m' (s + 4) f = mi (s2 + 4) f) ∧ m' (s + 4) 5 = nI n ∧ (∀ f, f < 2 → m' (s + 5) f = mi (s2 + 5) f) ∧ (∀ i, i < n → m' c1 i = mi a1 i) ∧ (∀ i, i < n → m' c2 i = mi a2 i) ∧ (∀ a f, s ≤ a → a < s + 72 → ¬ (a = s + 4 ∧ (f = 6 ∨ f = 7)) → r' a f = mr a f) ∧ (∀ b, b < g.2.2.1 → ¬ b = s + 4 → ¬ b = s + 5 → ¬ b = b1 → ¬ b = b2 → m' b = mi b ∧ (¬ (s ≤ b ∧ b < s + 72) → r' b = mr b)) ∧ (∀ b, b < g.2.2.1 → l' b = ml b ∧ g'.1 b = g.1 b ∧ g'.2.1 b = g.2.1 b) ∧ g.2.2.1 ≤ g'.2.2.1 ∧ (c1 = b1 ∨ g.2.2.1 ≤ c1) ∧ (c2 = b2 ∨ g.2.2.1 ≤ c2) ∧ RmD M g M' g' := by
  obtain ⟨-, -, ⟨x12, x13, x14, x15⟩, -, -⟩ := h1
  obtain ⟨-, -, ⟨y12, y13, y14, y15⟩, -, -⟩ := k1
  obtain ⟨⟨i6, i7⟩, ⟨i1, i2, i3, i4⟩, ⟨i8, i9, i10, i11, i12⟩, i13, i14, i15, i16, i17, i18⟩ := id h2
  obtain ⟨⟨j6, j7⟩, ⟨j1, j2, j3, j4⟩, ⟨j8, j9, j10, j11, j12⟩, j13, j14, j15, j16, j17, j18⟩ := id k2
  have hne : ¬ s2 + 4 = s + 4 := by omega
  have e5 : ∀ {F : MI} {b : Nat} {z : Int32}, u2 F (s + 4) b z (s2 + 4) = F (s2 + 4) := u2_row hne
  have e6 : ∀ {F : MI} {b : Nat} {z : Int32}, u2 F (s + 4) b z (s2 + 5) = F (s2 + 5) := u2_row (by omega)
  have e7 : ∀ {F : MI} {b : Nat} {z : Int32}, u2 F (s + 4) b z (s + 5) = F (s + 5) := u2_row (by omega)
  have p1 : 0 + 2 ≤ 2 := by decide
  have st : R (d + 1) mX2_copyFrom 0 [.ref (s + 4), .ref (s2 + 4)] [] g mi ml mr = R (d + 1) mX2_copyFrom 46 [.ref (s + 4), .ref (s2 + 4)] [] g (r2 (u2 (u2 (u2 (u2 mi (s + 4) 0 (mi (s2 + 4) 0)) (s + 4) 1 (mi (s2 + 4) 1)) (s + 4) 2 (mi (s2 + 4) 2)) (s + 4) 3 (mi (s2 + 4) 3)) (s + 5) (cpyI (mi (s2 + 5)) (mi (s + 5)) 0 0 2)) ml mr := by
    simp only [wX2_copyFrom_0, wX2_copyFrom_1, wX2_copyFrom_2, wX2_copyFrom_5, wX2_copyFrom_8, wX2_copyFrom_9, wX2_copyFrom_10, wX2_copyFrom_13, wX2_copyFrom_16, wX2_copyFrom_17, wX2_copyFrom_18, wX2_copyFrom_21, wX2_copyFrom_24, wX2_copyFrom_25, wX2_copyFrom_26, wX2_copyFrom_29, wX2_copyFrom_32, wX2_copyFrom_33, wX2_copyFrom_36, wX2_copyFrom_37, wX2_copyFrom_38, wX2_copyFrom_41, wX2_copyFrom_42, wX2_copyFrom_43, wX2_copyFrom_47, wX2_copyFrom_50, wX2_copyFrom_51, wX2_copyFrom_52, wX2_copyFrom_55, wX2_copyFrom_58, wX2_copyFrom_59, wX2_copyFrom_60, wX2_copyFrom_63, wX2_copyFrom_64, wX2_copyFrom_66, wX2_copyFrom_69, wX2_copyFrom_70, wX2_copyFrom_71, wX2_copyFrom_74, wX2_copyFrom_75, wX2_copyFrom_77, wX2_copyFrom_80, wX2_copyFrom_81, wX2_copyFrom_82, wX2_copyFrom_85, wX2_copyFrom_88, wX2_copyFrom_89, wX2_copyFrom_92, wX2_copyFrom_93, wX2_copyFrom_94, wX2_copyFrom_97, wX2_copyFrom_98, wX2_copyFrom_99, wX2_copyFrom_102, wX2_copyFrom_105, wX2_copyFrom_106, wX2_copyFrom_109, wX2_copyFrom_110, wX2_copyFrom_111, wX2_copyFrom_114, wX2_copyFrom_115, wX2_copyFrom_116, wX2_copyFrom_119, wX2_copyFrom_122, x12, y12, e5, e6, e7, x13, y13, x14, y14, x15, y15, p1, Nat.reduceLT, cs_0, cs_i, cs_r]
  -- the memory so far
  have m_y : r2 (u2 (u2 (u2 (u2 mi (s + 4) 0 (mi (s2 + 4) 0)) (s + 4) 1 (mi (s2 + 4) 1)) (s + 4) 2 (mi (s2 + 4) 2)) (s + 4) 3 (mi (s2 + 4) 3)) (s + 5) (cpyI (mi (s2 + 5)) (mi (s + 5)) 0 0 2) (s2 + 4) 5 = nI n := by
    rw [r2_n (by omega), e5, e5, e5, e5]; exact hsz
  have m_o : ∀ {b}, ¬ b = s + 4 → ¬ b = s + 5 → r2 (u2 (u2 (u2 (u2 mi (s + 4) 0 (mi (s2 + 4) 0)) (s + 4) 1 (mi (s2 + 4) 1)) (s + 4) 2 (mi (s2 + 4) 2)) (s + 4) 3 (mi (s2 + 4) 3)) (s + 5) (cpyI (mi (s2 + 5)) (mi (s + 5)) 0 0 2) b = mi b := fun {b} g1 g2 => by
    rw [r2_n g2, u2_row g1, u2_row g1, u2_row g1, u2_row g1]
  have m_4 : ∀ f, f < 4 → r2 (u2 (u2 (u2 (u2 mi (s + 4) 0 (mi (s2 + 4) 0)) (s + 4) 1 (mi (s2 + 4) 1)) (s + 4) 2 (mi (s2 + 4) 2)) (s + 4) 3 (mi (s2 + 4) 3)) (s + 5) (cpyI (mi (s2 + 5)) (mi (s + 5)) 0 0 2) (s + 4) f = mi (s2 + 4) f := fun f hf => by
    rw [r2_n (by omega)]
    have hf' : f = 0 ∨ f = 1 ∨ f = 2 ∨ f = 3 := by omega
    rcases hf' with rfl | rfl | rfl | rfl
    · rw [u2_oth (by omega), u2_oth (by omega), u2_oth (by omega), u2_at]
    · rw [u2_oth (by omega), u2_oth (by omega), u2_at]
    · rw [u2_oth (by omega), u2_at]
    · rw [u2_at]
  have m_5 : ∀ f, f < 2 → r2 (u2 (u2 (u2 (u2 mi (s + 4) 0 (mi (s2 + 4) 0)) (s + 4) 1 (mi (s2 + 4) 1)) (s + 4) 2 (mi (s2 + 4) 2)) (s + 4) 3 (mi (s2 + 4) 3)) (s + 5) (cpyI (mi (s2 + 5)) (mi (s + 5)) 0 0 2) (s + 5) f = mi (s2 + 5) f := fun f hf => by
    rw [r2_s]
    unfold cpyI
    rw [if_pos (by omega)]
    congr 1; omega
  generalize r2 (u2 (u2 (u2 (u2 mi (s + 4) 0 (mi (s2 + 4) 0)) (s + 4) 1 (mi (s2 + 4) 1)) (s + 4) 2 (mi (s2 + 4) 2)) (s + 4) 3 (mi (s2 + 4) 3)) (s + 5) (cpyI (mi (s2 + 5)) (mi (s + 5)) 0 0 2) = m1 at st m_y m_o m_4 m_5
  obtain ⟨c1, c2, M', g1, I1, W1, T1, u1, u2', ⟨u3, u4, u5, u6, u7, u8⟩, u9⟩ := c_lroom (d := d + 1) (mi := m1) (ml := ml) (n := n) (u0 := .null) (u1 := .null) x12 y12 i6 i7 i1 i2 i3 i4 j6 j1 j3 hn j17 i17 m_y (by omega) (by omega) i11 i12 j11 hne (fun h9 => by have := hR.1; omega) (fun h9 => by have := hR.2; omega)
  have hc1 : ¬ a1 = c1 ∧ ¬ a2 = c1 ∧ ¬ a1 = c2 ∧ ¬ a2 = c2 ∧ ¬ c1 = c2 ∧ ¬ c1 = s + 4 ∧ ¬ c2 = s + 4 ∧ ¬ c1 = s + 5 ∧ ¬ c2 = s + 5 ∧ n ≤ M' := by omega
  obtain ⟨v1, v2, v3, v4, v5, v6, v7, v8, v9, v10⟩ := hc1
  have t6 : T1 (s2 + 4) 6 = a1 := by rw [(u2' (s2 + 4) (by omega)).2.2.2.2 6 (fun h9 => hne h9.1)]; exact j6
  have t7 : T1 (s2 + 4) 7 = a2 := by rw [(u2' (s2 + 4) (by omega)).2.2.2.2 7 (fun h9 => hne h9.1)]; exact j7
  have ql : g1.1 (s + 4) = 3 := (u2' (s + 4) (by omega)).1.trans x12
  have ql2 : g1.1 (s2 + 4) = 3 := (u2' (s2 + 4) (by omega)).1.trans y12
  have qa1 : g1.1 a1 = 20 := (u2' a1 j11).1.trans j1
  have qa2 : g1.1 a2 = 20 := (u2' a2 j12).1.trans j2
  have qb1 : g1.2.1 a1 = L := (u2' a1 j11).2.1.trans j3
  have qb2 : g1.2.1 a2 = L := (u2' a2 j12).2.1.trans j4
  have is5 : I1 (s2 + 4) 5 = nI n := by rw [(u2' (s2 + 4) (by omega)).2.2.1]; exact m_y
  have o1 : 0 + n ≤ L := by omega
  have o2 : 0 + n ≤ M' := by omega
  have o3 : n < 2147483648 := by omega
  have z5 : u2 I1 (s + 4) 5 (nI n) (s + 4) 5 = nI n := u2_at
  have za1 : u2 I1 (s + 4) 5 (nI n) a1 = I1 a1 := u2_row (by omega)
  have za2 : u2 I1 (s + 4) 5 (nI n) a2 = I1 a2 := u2_row (by omega)
  have zc1 : u2 I1 (s + 4) 5 (nI n) c1 = I1 c1 := u2_row v6
  have zc2 : u2 I1 (s + 4) 5 (nI n) c2 = I1 c2 := u2_row v7
  have y5 : r2 (u2 I1 (s + 4) 5 (nI n)) c1 (cpyI (I1 a1) (I1 c1) 0 0 n) (s + 4) = u2 I1 (s + 4) 5 (nI n) (s + 4) := r2_n (fun h => v6 h.symm)
  have ya2 : r2 (u2 I1 (s + 4) 5 (nI n)) c1 (cpyI (I1 a1) (I1 c1) 0 0 n) a2 = I1 a2 := by rw [r2_n v2]; exact za2
  have yc2 : r2 (u2 I1 (s + 4) 5 (nI n)) c1 (cpyI (I1 a1) (I1 c1) 0 0 n) c2 = I1 c2 := by rw [r2_n (fun h => v5 h.symm)]; exact zc2
  refine ⟨c1, c2, M', g1, M2 (u2 I1 (s + 4) 5 (nI n)) c1 c2 (cpyI (I1 a1) (I1 c1) 0 0 n) (cpyI (I1 a2) (I1 c2) 0 0 n), W1, T1, ?_, ⟨⟨u3, u4⟩, ⟨u5, u6, u7, u8⟩, ⟨?_, ?_, v5, ?_, ?_⟩, ?_⟩, v10, fun f hf => ?_, ?_, fun f hf => ?_, fun i hi => ?_, fun i hi => ?_, fun a f ha ha2 hf => ?_, fun b hb h4 h5 hb1 hb2 => ?_, fun b hb => ⟨(u2' b hb).2.2.2.1, (u2' b hb).1, (u2' b hb).2.1⟩, ?_, ?_, ?_, ?_⟩
  · rw [eX2_copyFrom, st, u1]
    simp only [wX2_copyFrom_0, wX2_copyFrom_1, wX2_copyFrom_2, wX2_copyFrom_5, wX2_copyFrom_8, wX2_copyFrom_9, wX2_copyFrom_10, wX2_copyFrom_13, wX2_copyFrom_16, wX2_copyFrom_17, wX2_copyFrom_18, wX2_copyFrom_21, wX2_copyFrom_24, wX2_copyFrom_25, wX2_copyFrom_26, wX2_copyFrom_29, wX2_copyFrom_32, wX2_copyFrom_33, wX2_copyFrom_36, wX2_copyFrom_37, wX2_copyFrom_38, wX2_copyFrom_41, wX2_copyFrom_42, wX2_copyFrom_43, wX2_copyFrom_46, wX2_copyFrom_47, wX2_copyFrom_50, wX2_copyFrom_51, wX2_copyFrom_52, wX2_copyFrom_55, wX2_copyFrom_58, wX2_copyFrom_59, wX2_copyFrom_60, wX2_copyFrom_63, wX2_copyFrom_64, wX2_copyFrom_66, wX2_copyFrom_69, wX2_copyFrom_70, wX2_copyFrom_71, wX2_copyFrom_74, wX2_copyFrom_75, wX2_copyFrom_77, wX2_copyFrom_80, wX2_copyFrom_81, wX2_copyFrom_82, wX2_copyFrom_85, wX2_copyFrom_88, wX2_copyFrom_89, wX2_copyFrom_92, wX2_copyFrom_93, wX2_copyFrom_94, wX2_copyFrom_97, wX2_copyFrom_98, wX2_copyFrom_99, wX2_copyFrom_102, wX2_copyFrom_105, wX2_copyFrom_106, wX2_copyFrom_109, wX2_copyFrom_110, wX2_copyFrom_111, wX2_copyFrom_114, wX2_copyFrom_115, wX2_copyFrom_116, wX2_copyFrom_119, wX2_copyFrom_122, ql, ql2, is5, t6, u3, t7, u4, z5, qa1, qa2, qb1, qb2, u5, u6, u7, u8, o1, o2, o3, Nat.reduceLT, cs_0, cs_i, cs_r, za1, zc1, y5, ya2, yc2]
    rfl
  · omega
  · omega
  · rcases u9 with ⟨w1, w2, w3, w4, w5⟩ | ⟨w1, w2, w3, w4, w5, w6, w7⟩
    · rw [w4]; omega
    · omega
  · rcases u9 with ⟨w1, w2, w3, w4, w5⟩ | ⟨w1, w2, w3, w4, w5, w6, w7⟩
    · rw [w4]; omega
    · omega
  · rcases u9 with ⟨w1, w2, w3, w4, w5⟩ | ⟨w1, w2, w3, w4, w5, w6, w7⟩
    · rw [w4, w3]; exact ⟨i13, i14, i15, i16, i17, i18⟩
    · rw [w4]; exact ⟨i13, i14, by omega, j16, j17, j18⟩
  · rw [M2_o (fun h => v6 h.symm) (fun h => v7 h.symm), u2_oth (by omega), (u2' (s + 4) (by omega)).2.2.1]
    exact m_4 f hf
  · rw [M2_o (fun h => v6 h.symm) (fun h => v7 h.symm)]; exact z5
  · rw [M2_o (fun h => v8 h.symm) (fun h => v9 h.symm), u2_row (by omega), (u2' (s + 5) (by omega)).2.2.1]
    exact m_5 f hf
  · rw [M2_1 v5]
    unfold cpyI
    rw [if_pos (by omega), (u2' a1 j11).2.2.1, m_o (by omega) (by omega)]
    congr 1; omega
  · rw [M2_2]
    unfold cpyI
    rw [if_pos (by omega), (u2' a2 j12).2.2.1, m_o (by omega) (by omega)]
    congr 1; omega
  · exact (u2' a (by omega)).2.2.2.2 f hf
  · refine ⟨?_, fun hbl => ?_⟩
    · rw [M2_o (by omega) (by omega), u2_row h4, (u2' b hb).2.2.1, m_o h4 h5]
    · funext f
      exact (u2' b hb).2.2.2.2 f (fun h9 => h4 h9.1)
  · rcases u9 with ⟨w1, w2, w3, w4, w5⟩ | ⟨w1, w2, w3, w4, w5, w6, w7⟩
    · rw [w4]; exact Nat.le_refl _
    · omega
  · omega
  · omega
  · rcases u9 with ⟨w1, w2, w3, w4, w5⟩ | ⟨w1, w2, w3, w4, w5, w6, w7⟩
    · rw [w4, w3]; exact ⟨Nat.le_refl _, Nat.le_refl _⟩
    · have hpw : 2 * M ≤ L := by
        obtain ⟨ka, hka⟩ := i18
        obtain ⟨kb, hkb⟩ := j18
        have hlt : M < L := by omega
        rw [hka, hkb] at hlt ⊢
        have h2 : 2 ^ ka < 2 ^ kb := by omega
        have h3 : ka < kb := (Nat.pow_lt_pow_iff_right (by decide)).mp h2
        have h4 : 2 ^ (ka + 1) ≤ 2 ^ kb := Nat.pow_le_pow_right (by decide) h3
        rw [Nat.pow_succ] at h4
        omega
      rw [w4]
      exact ⟨by omega, by omega⟩
end CCP2
