/-! the law: its beginning -/
def z00 : MR := fun _ _ => 0
/-- a new state lies at s -/
def ISt (s : Nat) (g : Gh) (mi : MI) (mr : MR) : Prop := ∀ i, i < 72 → g.1 (s + i) = kdS i ∧ g.2.1 (s + i) = lnS i ∧ (∀ f, mi (s + i) f = iV i f) ∧ ∀ f, mr (s + i) f = rM s 72 0 z00 (s + i) f
/-- k states are made -/
def INn (k c u L : Nat) (xs : Nat → Int32) (g : Gh) (mi : MI) (mr : MR) : Prop := (g.2.2.1 = 4 + 72 * k ∧ g.2.2.2.1 + 72 * k = c ∧ g.2.2.2.2 + 663 * k = u) ∧ (g.1 2 = 5 ∧ g.1 3 = 25 ∧ g.2.1 3 = 3 ∧ mr 2 0 = 3 ∧ ∀ i, i < k → i < 3 → mr 3 i = Ad i) ∧ (g.1 1 = 30 ∧ g.2.1 1 = L ∧ ∀ j, mi 1 j = xs j) ∧ ∀ i, i < k → ISt (Ad i) g mi mr
section LINI
variable {s k d i j f a o v x n c u L e w N t D X0 : Nat} {y z : Int32} {g g' : Gh} {mi mi' : MI} {ml ml' : ML} {mr mr' : MR} {xs : Nat → Int32} {r : Nat → Int32} {q : Nat → Int64}
theorem rM_zz (h : i < 72) : rM s 72 0 mr (s + i) f = rM s 72 0 z00 (s + i) f := by
  have h9 : s ≤ s + i ∧ s + i < s + 72 := by omega
  unfold rM
  rw [if_pos h9, if_pos h9]
theorem ISt.new : ISt s (gS s 72 g) (iM s 72 mi) (rM s 72 0 mr) := fun i hi => ⟨gS_k hi, gS_l hi, fun f => iM_at hi, fun f => rM_zz hi⟩
theorem ISt.keep (h : ISt s g mi mr) (hk : ∀ a, s ≤ a → a < s + 72 → g'.1 a = g.1 a ∧ g'.2.1 a = g.2.1 a ∧ mi' a = mi a ∧ mr' a = mr a) : ISt s g' mi' mr' := fun i hi => by
  obtain ⟨h1, h2, h3, h4⟩ := h i hi
  obtain ⟨k1, k2, k3, k4⟩ := hk (s + i) (by omega) (by omega)
  rw [k1, k2, k3, k4]
  exact ⟨h1, h2, h3, h4⟩
theorem us72 : usS 72 = 663 := rfl
theorem INn.step (h : INn k c u L xs g mi mr) (hk : k < 4) (hc : 288 ≤ c) (hu : 2652 ≤ u) (hs : s = 4 + 72 * k) (hr : ∀ a, 4 ≤ a → mr' a = rM s 72 0 mr a) (h2 : mr' 2 0 = mr 2 0) (h3 : ∀ i, i < 3 → mr' 3 i = if i = k then s else mr 3 i) (hm : ∀ a, ¬ a = 2 → mi' a = iM s 72 mi a) : INn (k + 1) c u L xs (gS s 72 g) mi' mr' := by
  obtain ⟨⟨a1, a2, a3⟩, ⟨b1, b2, b3, b4, b5⟩, ⟨c1, c2, c3⟩, d1⟩ := h
  have o1 := gS_o (g := g) (s := s) (k := 72) (a := 1) (by omega)
  have o2 := gS_o (g := g) (s := s) (k := 72) (a := 2) (by omega)
  have o3 := gS_o (g := g) (s := s) (k := 72) (a := 3) (by omega)
  refine ⟨⟨?_, ?_, ?_⟩, ⟨o2.1.trans b1, o3.1.trans b2, o3.2.trans b3, h2.trans b4, fun i hi hi3 => ?_⟩, ⟨o1.1.trans c1, o1.2.trans c2, fun j => ?_⟩, fun i hi => ?_⟩
  · show s + 72 = 4 + 72 * (k + 1)
    omega
  · show g.2.2.2.1 - 72 + 72 * (k + 1) = c
    omega
  · show g.2.2.2.2 - usS 72 + 663 * (k + 1) = u
    rw [us72]
    omega
  · rw [h3 i hi3]
    by_cases h9 : i = k
    · rw [if_pos h9, h9]; exact hs
    · rw [if_neg h9]; exact b5 i (by omega) hi3
  · rw [hm 1 (by decide), iM_o (by omega)]
    exact c3 j
  · by_cases h9 : i = k
    · have e : Ad i = s := by rw [h9, hs]; rfl
      rw [e]
      exact ISt.new.keep (fun a ha hb => ⟨rfl, rfl, hm a (by omega), hr a (by omega)⟩)
    · have e : Ad i + 72 ≤ s := by unfold Ad; omega
      have e4 : 4 ≤ Ad i := by unfold Ad; omega
      exact (d1 i (by omega)).keep (fun a ha hb => by
        have o := gS_o (g := g) (s := s) (k := 72) (a := a) (by omega)
        exact ⟨o.1, o.2, (hm a (by omega)).trans (iM_o (by omega)), (hr a (by omega)).trans (rM_o (by omega))⟩)
/-- a state is made and kept -/
theorem c_new (hn : g.2.2.1 = s) (hs : 1 ≤ s) (h1 : 72 ≤ g.2.2.2.1) (h2 : 663 ≤ g.2.2.2.2) : callT (d + 3) mX3_init [.ref s] (newG g 4 0 (g.2.2.2.1 - 1) (g.2.2.2.2 - 9), z2 mi s 0, z2 ml s 0, z2 mr s 0) = some (.inl none, gS s 72 g, iM s 72 mi, lM s 72 ml, rM s 72 0 mr) := by
  have e1 : newG g 4 0 (g.2.2.2.1 - 1) (g.2.2.2.2 - 9) = gS s 1 g := by
    have := gS_new (s := s) (k := 0) (kd := 4) (n := 0) (z := 9) (g := g) rfl rfl rfl
    rw [gS_0 hn] at this
    exact this
  have e2 : z2 ml s 0 = lM s 1 ml := by
    have := lM_new (s := s) (k := 0) (ml := ml)
    rw [lM_0] at this
    exact this
  have e3 : z2 mr s 0 = rM s 1 0 mr := by
    have := rM_hole (s := s) (k := 0) (mr := mr)
    rw [rM_0] at this
    exact this
  rw [e1, e2, e3]
  exact c_i3 hs h1 h2
theorem i4_turn (h : INn k c u L xs g mi mr) (hk : k < 3) (hc : 288 ≤ c) (hu : 2652 ≤ u) : ∃ g' mi' ml' mr', R (d + 4) mX4_init 14 [.ref 2, .int (nI k)] [] g mi ml mr = R (d + 4) mX4_init 14 [.ref 2, .int (nI (k + 1))] [] g' mi' ml' mr' ∧ INn (k + 1) c u L xs g' mi' mr' := by
  have hS := h.step (s := 4 + 72 * k) (mr' := u2 (rM (4 + 72 * k) 72 0 mr) 3 k (4 + 72 * k)) (mi' := iM (4 + 72 * k) 72 mi) (by omega) hc hu rfl (fun a ha => u2_row (by omega)) (by rw [u2_row (by decide), rM_o (by omega)]) (fun i hi => by
    rw [u2_ev]
    by_cases h9 : i = k
    · rw [if_pos ⟨rfl, h9⟩, if_pos h9]
    · rw [if_neg (fun h8 => h9 h8.2), if_neg h9, rM_o (by omega)]) (fun a _ => rfl)
  obtain ⟨⟨a1, a2, a3⟩, ⟨b1, b2, b3, b4, b5⟩, -, -⟩ := h
  refine ⟨_, _, lM (4 + 72 * k) 72 ml, _, ?_, hS⟩
  have c1 : ¬ nI 3 ≤ nI k := nI_ge (by omega) (by omega)
  have o3 := gS_o (g := g) (s := 4 + 72 * k) (k := 72) (a := 3) (by omega)
  have kk : (newG g 4 0 (g.2.2.2.1 - 1) (g.2.2.2.2 - 9)).1 (4 + 72 * k) = 4 := by rw [← a1]; exact newG_k
  have ks : (gS (4 + 72 * k) 72 g).1 (4 + 72 * k) = 4 := gS_k (s := 4 + 72 * k) (i := 0) (k := 72) (by decide)
  rw [wX4_init_14, wX4_init_15, wX4_init_16, if_neg c1, wX4_init_19, wX4_init_20 b1, b4, wX4_init_23, wX4_init_24 (by omega) (by omega), a1, wX4_init_27, wX4_init_28 kk (Nat.le_of_ble_eq_true rfl), c_new (d := d + 1) a1 (by omega) (by omega) (by omega), aR_v (E := ()), wX4_init_31 (Or.inr (Or.inr (o3.1.trans b2))) (by rw [o3.2, b3]; exact hk) (by omega) (by rw [ks, o3.1, b2]; rfl), wX4_init_32r, wX4_init_35, nI_add]
/-- the class is made -/
theorem c_i4 (hn : g.2.2.1 = 3) (h2 : g.1 2 = 5) (hc : g.2.2.2.1 = c + 1) (hu : g.2.2.2.2 = u + 3) (hc2 : 288 ≤ c) (hu2 : 2652 ≤ u) (s1 : g.1 1 = 30) (s2 : g.2.1 1 = L) (s3 : ∀ j, mi 1 j = xs j) : ∃ g' mi' ml' mr', callT (d + 5) mX4_init [.ref 2] (g, mi, ml, mr) = some (.inl none, g', mi', ml', mr') ∧ INn 4 c u L xs g' mi' mr' ∧ mr' 2 2 = Ad 3 ∧ mi' 2 1 = nI 0 := by
  have h0 : INn 0 c u L xs (newG g 25 3 (g.2.2.2.1 - 1) (g.2.2.2.2 - 3)) (z2 mi 3 0) (u2 (z2 mr 3 0) 2 0 3) := by
    have o1 := newG_o (g := g) (a := 1) (kd := 25) (n' := 3) (c' := g.2.2.2.1 - 1) (s' := g.2.2.2.2 - 3) (by omega)
    have o2 := newG_o (g := g) (a := 2) (kd := 25) (n' := 3) (c' := g.2.2.2.1 - 1) (s' := g.2.2.2.2 - 3) (by omega)
    refine ⟨⟨?_, ?_, ?_⟩, ⟨o2.1.trans h2, ?_, ?_, u2_at, fun i hi => absurd hi (by omega)⟩, ⟨o1.1.trans s1, o1.2.trans s2, fun j => ?_⟩, fun i hi => absurd hi (by omega)⟩
    · show g.2.2.1 + 1 = 4 + 72 * 0
      omega
    · show g.2.2.2.1 - 1 + 72 * 0 = c
      omega
    · show g.2.2.2.2 - 3 + 663 * 0 = u
      omega
    · rw [← hn]; exact newG_k
    · rw [← hn]; exact newG_l
    · rw [z2_o (by decide)]; exact s3 j
  have k2 : (newG g 25 3 (g.2.2.2.1 - 1) (g.2.2.2.2 - 3)).1 2 = 5 := h0.2.1.1
  obtain ⟨g1, m1, l1, r1, e1, I1⟩ := i4_turn (d := d) (ml := z2 ml 3 0) h0 (by decide) hc2 hu2
  obtain ⟨g2, m2, l2, r2_, e2, I2⟩ := i4_turn (d := d) (ml := l1) I1 (by decide) hc2 hu2
  obtain ⟨g3, m3, l3, r3, e3, I3⟩ := i4_turn (d := d) (ml := l2) I2 (by decide) hc2 hu2
  obtain ⟨⟨a1, a2, a3⟩, ⟨b1, b2, b3, b4, b5⟩, -, -⟩ := id I3
  have a1 : g3.2.2.1 = 220 := a1
  have hS := I3.step (s := 220) (mr' := u2 (rM 220 72 0 r3) 2 2 220) (mi' := iM 220 72 (u2 m3 2 1 (nI 0))) (by omega) hc2 hu2 rfl (fun a ha => u2_row (by omega)) (by rw [u2_oth (by decide), rM_o (by omega)]) (fun i hi => by
    rw [u2_row (by decide), if_neg (by omega), rM_o (by omega)]) (fun a ha => by
    funext f
    by_cases h9 : 220 ≤ a ∧ a < 220 + 72
    · unfold iM
      rw [if_pos h9, if_pos h9]
    · rw [iM_o (by omega), iM_o (by omega), u2_row ha])
  have kk : (newG g3 4 0 (g3.2.2.2.1 - 1) (g3.2.2.2.2 - 9)).1 220 = 4 := by rw [← a1]; exact newG_k
  have o2 := gS_o (g := g3) (s := 220) (k := 72) (a := 2) (by omega)
  refine ⟨_, _, lM 220 72 l3, _, ?_, hS, u2_at, ?_⟩
  · rw [eX4_init, wX4_init_0, wX4_init_1 (by rw [h2]; decide) (by rw [h2]; decide) (Nat.le_of_ble_eq_true rfl), wX4_init_4, wX4_init_5, wX4_init_6 (by decide) (by omega) (by omega), hn, wX4_init_9 k2 (by decide), wX4_init_12, wX4_init_13r, e1, e2, e3]
    rw [wX4_init_14, wX4_init_15, wX4_init_16, if_pos (by decide), wX4_init_38, wX4_init_39, wX4_init_40 b1, wX4_init_43, wX4_init_44 (by omega) (by omega), a1, wX4_init_47, wX4_init_48 kk (Nat.le_of_ble_eq_true rfl), c_new (d := d + 1) a1 (by omega) (by omega) (by omega), aR_v (E := ()), wX4_init_51 (o2.1.trans b1) (by decide), wX4_init_54]
  · rw [iM_o (by omega), u2_at]
end LINI
