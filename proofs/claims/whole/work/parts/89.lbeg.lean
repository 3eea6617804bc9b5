/-! the law: the first turn's state -/
def r00 : Nat → Int32 := u1 (fun _ => 0) 1 (nI 2)
def rB0 : Nat → Int32 := pBeg r00 (nI 4)
section LBEG
variable {s k d i j f a o v x n c u L e w N t D : Nat} {y z : Int32} {g g' : Gh} {mi mi' : MI} {ml ml' : ML} {mr mr' : MR} {xs : Nat → Int32} {r : Nat → Int32} {q : Nat → Int64} {X : Nat → Nat → Nat} {B : Nat}
theorem rB_0 : rB0 0 = nI 4 := beg_0
theorem rB_1 : rB0 1 = nI 2 := beg_1
theorem rB_lo (h0 : ¬ j = 0) (h1 : ¬ j = 1) (h2 : j < 25) : rB0 j = nI 0 := beg_lo h0 h1 h2
theorem ji_0 : JI X B 0 0 2 rB0 q := JI.new (C := 4) rB_0 (by decide) (by decide) rB_1 (by decide) (by decide) (fun j h0 h1 h2 => beg_lo h0 h1 (by omega)) (fun e c w he hc hw => by
  by_cases h : w = 1
  · subst h; rw [if_pos rfl]; exact beg_of he hc
  · rw [if_neg h]; exact beg_e he hc hw h) (fun n w hn hw => beg_c hn hw)
def pv0 (j : Nat) : Int32 := if j = 0 then nI 4 else if j = 1 then nI 2 else if 24 ≤ j ∧ (j - 24) % 9 = 1 then -1 else nI 0
theorem pv_i : ∀ j, j < 240 → (j = 11 ∨ (24 ≤ j ∧ (j - 24) % 9 = 8) ∨ iV (lA j) (lF j) = pv0 j) := by decide +kernel
theorem pv_b (h : j < 240) : rB0 j = pv0 j := by
  unfold pv0
  by_cases h0 : j = 0
  · subst h0; rw [if_pos rfl]; exact rB_0
  · rw [if_neg h0]
    by_cases h1 : j = 1
    · subst h1; rw [if_pos rfl]; exact rB_1
    · rw [if_neg h1]
      by_cases h2 : 24 ≤ j ∧ (j - 24) % 9 = 1
      · rw [if_pos h2]
        have e : j = eI ((j - 24) / 9 % 2) ((j - 24) / 18) 1 := by unfold eI; omega
        rw [e]
        exact beg_of (by omega) (by omega)
      · rw [if_neg h2]
        exact beg_v h0 h1 (by omega) (fun i hi h9 => h2 (by omega))
theorem ISt.sg (h : ISt s g mi mr) : SG s g mr := by
  have rr : ∀ pa pf v, pa < 72 → zCh pa pf = v → 0 < v → v < 72 → mr (s + pa) pf = s + v := fun pa pf v h1 h2 h3 h4 => ((h pa h1).2.2.2 pf).trans (rM_at h1 h2 h3 h4 (by omega))
  refine ⟨⟨(h 0 (by decide)).1, rr 0 1 1 (by decide) rfl (by decide) (by decide), rr 0 2 2 (by decide) rfl (by decide) (by decide), rr 0 4 3 (by decide) rfl (by decide) (by decide), rr 0 5 4 (by decide) rfl (by decide) (by decide)⟩, ⟨(h 1 (by decide)).1, (h 1 (by decide)).2.1, (h 2 (by decide)).1, (h 2 (by decide)).2.1, (h 3 (by decide)).1, (h 3 (by decide)).2.1⟩, ⟨(h 4 (by decide)).1, rr 4 4 5 (by decide) rfl (by decide) (by decide), (h 5 (by decide)).1, (h 5 (by decide)).2.1⟩, fun i hi => ⟨?_, ?_⟩, fun n hn => ⟨?_, ?_⟩⟩
  · rw [Nat.add_assoc]
    rw [(h (8 + i) (by omega)).1]
    unfold kdS
    rw [if_neg (by omega), if_neg (by omega), if_neg (by omega), if_neg (by omega), if_neg (by omega), if_neg (by omega), if_pos (by omega)]
  · rw [Nat.add_assoc]
    refine rr 2 i (8 + i) (by decide) ?_ (by omega) (by omega)
    unfold zCh
    rw [if_neg (by decide), if_neg (by decide), if_pos rfl, if_pos hi]
  · unfold cA
    rw [Nat.add_assoc]
    rw [(h (32 + n) (by omega)).1]
    unfold kdS
    rw [if_neg (by omega), if_neg (by omega), if_neg (by omega), if_neg (by omega), if_neg (by omega), if_neg (by omega), if_neg (by omega)]
  · unfold cA
    rw [Nat.add_assoc]
    refine rr 3 n (32 + n) (by decide) ?_ (by omega) (by omega)
    unfold zCh
    rw [if_neg (by decide), if_neg (by decide), if_neg (by decide), if_pos rfl, if_pos hn]
theorem ISt.sa (h : ISt s g mi mr) (hs : 1 ≤ s) (hs2 : s + 72 ≤ 298) (hg : 298 ≤ g.2.2.1) : SA s (s + 6) (s + 7) 32 g mr := by
  have rr : ∀ pa pf v, pa < 72 → zCh pa pf = v → 0 < v → v < 72 → mr (s + pa) pf = s + v := fun pa pf v h1 h2 h3 h4 => ((h pa h1).2.2.2 pf).trans (rM_at h1 h2 h3 h4 (by omega))
  exact ⟨⟨rr 4 6 6 (by decide) rfl (by decide) (by decide), rr 4 7 7 (by decide) rfl (by decide) (by decide)⟩, ⟨(h 6 (by decide)).1, (h 7 (by decide)).1, (h 6 (by decide)).2.1, (h 7 (by decide)).2.1⟩, ⟨Or.inl rfl, Or.inl rfl, by omega, by omega, by omega⟩, hs, hs2, hg, by decide, by decide, 0, rfl⟩
theorem ISt.cx (h : ISt s g mi mr) : CX s mi := fun e c he hc => by
  have e1 : eA s e c = s + (8 + (e * 12 + c)) := by unfold eA; omega
  rw [e1, (h (8 + (e * 12 + c)) (by omega)).2.2.1 0, (h (8 + (e * 12 + c)) (by omega)).2.2.1 1]
  unfold iV
  rw [if_neg (by omega), if_neg (by omega), if_pos (by omega), if_neg (by omega), if_neg (by omega), if_neg (by omega), if_pos (by omega)]
  rw [show (8 + (e * 12 + c) - 8) / 12 = e by omega, show (8 + (e * 12 + c) - 8) % 12 = c by omega]
  exact ⟨rfl, rfl⟩
theorem ISt.cs (h : ISt s g mi mr) (hs : 1 ≤ s) (hs2 : s + 72 ≤ 298) (hg : 298 ≤ g.2.2.1) : CS s 0 0 0 (s + 6) (s + 7) 32 rB0 q g mi mr := by
  refine ⟨h.sg, h.sa hs hs2 hg, ⟨fun j hj => ?_, fun e c he hc => ?_, h.cx⟩, ⟨rB_lo (by decide) (by decide) (by decide), ?_, by decide, by decide⟩, fun i hi => absurd hi (by omega), fun i hi => absurd hi (by omega)⟩
  · obtain ⟨j1, j2, j3, j4⟩ := hj
    have j240 : j < 240 := by
      by_cases h9 : j < 240
      · exact h9
      · exact absurd (j4 (by omega)) (by omega)
    rw [(h (lA j) (lA_ok j j1).1).2.2.1 (lF j), pv_b j240]
    rcases pv_i j j240 with h9 | h9 | h9
    · exact absurd h9 j2
    · exact absurd h9.2 (j3 h9.1 j240)
    · exact h9
  · have e1 : eA s e c = s + (8 + (e * 12 + c)) := by unfold eA; omega
    have e4 : rB0 (eI e c 4) = nI 0 := beg_e he hc (by decide) (by decide)
    have nb : ¬ bOn (rB0 (eI e c 4)) := by rw [e4]; unfold bOn; decide
    refine ⟨fun h9 => absurd h9 nb, fun _ => ?_⟩
    rw [e1, (h (8 + (e * 12 + c)) (by omega)).2.2.1 7]
    unfold iV
    rw [if_neg (by omega), if_neg (by omega), if_neg (by omega), if_neg (by omega), if_neg (by omega)]
    rfl
  · exact (h 4 (by decide)).2.2.1 5
/-- the class at the loop's head -/
theorem tg_0 {E : Nat} {S : Nat → PS} (h : INn 4 c u L xs g mi mr) (hn : 298 ≤ g'.2.2.1) (hc : 310000 + E ≤ g'.2.2.2.1) (hu : 1320000 + 6 * E ≤ g'.2.2.2.2) (h22 : mr 2 2 = Ad 3) (h21 : mi 2 1 = nI 0) (hk : ∀ a, 1 ≤ a → a < 292 → g'.1 a = g.1 a ∧ g'.2.1 a = g.2.1 a ∧ mi' a = mi a ∧ mr' a = mr a) : TG E 0 S (rB0, q) (fun i => i) (fun k => Ad k + 6) (fun k => Ad k + 7) (fun _ => 32) g' mi' mr' := by
  obtain ⟨-, ⟨b1, b2, b3, b4, b5⟩, -, d1⟩ := h
  obtain ⟨u1', u2', u3, u4⟩ := hk 2 (by decide) (by decide)
  obtain ⟨w1, w2, w3, w4⟩ := hk 3 (by decide) (by decide)
  have hA : ∀ k, k < 4 → 4 ≤ Ad k ∧ Ad k + 72 ≤ 292 := fun k hk => by unfold Ad; omega
  have hI : ∀ k, k < 4 → ISt (Ad k) g' mi' mr' := fun k hk4 => (d1 k hk4).keep (fun a ha hb => hk a (by have := hA k hk4; omega) (by have := hA k hk4; omega))
  refine ⟨⟨⟨u1'.trans b1, by rw [u4]; exact b4, by rw [u4]; exact h22⟩, ⟨w1.trans b2, w2.trans b3, fun i hi => by rw [w4]; exact b5 i (by omega) hi⟩, by rw [u3]; exact h21, by decide⟩, ⟨fun i hi => hi, fun i j _ _ hij => hij⟩, ⟨fun k hk4 => ⟨(hI k hk4).sg, (hI k hk4).sa (by have := hA k hk4; omega) (by have := hA k hk4; omega) hn, (hI k hk4).cx⟩, fun k k' _ _ hkk => ⟨show ¬ Ad k + 6 = Ad k' + 6 by unfold Ad; omega, show ¬ Ad k + 6 = Ad k' + 7 by unfold Ad; omega, show ¬ Ad k + 7 = Ad k' + 6 by unfold Ad; omega, show ¬ Ad k + 7 = Ad k' + 7 by unfold Ad; omega⟩, by omega, by omega⟩, fun i hi => absurd hi (by omega), ?_⟩
  have e5 : nC rB0 = 0 := nC_of (rB_lo (by decide) (by decide) (by decide)) (by decide)
  have e11 : nM rB0 = 0 := nM_of (rB_lo (by decide) (by decide) (by decide)) (by decide)
  show CS (Ad 3) 0 (nC rB0) (nM rB0) (Ad 3 + 6) (Ad 3 + 7) 32 rB0 q g' mi' mr'
  rw [e5, e11]
  exact (hI 3 (by decide)).cs (by decide) (by decide) hn
/-- the reference is made -/
theorem c_i5 (hn : g.2.2.1 = 293) (h2 : g.1 292 = 6) (hc : 4 ≤ g.2.2.2.1) (hu : 51920 ≤ g.2.2.2.2) : ∃ g' mi' ml' mr', callT (d + 3) mX5_init [.ref 292] (g, mi, ml, mr) = some (.inl none, g', mi', ml', mr') ∧ MG g' mr' ∧ mi' 293 = rB0 ∧ mi' 292 = mi 292 ∧ (g'.2.2.1 = 297 ∧ g'.2.2.2.1 + 4 = g.2.2.2.1 ∧ g'.2.2.2.2 + 51920 = g.2.2.2.2) ∧ ∀ a, a < 292 → g'.1 a = g.1 a ∧ g'.2.1 a = g.2.1 a ∧ mi' a = mi a ∧ mr' a = mr a := by
  obtain ⟨k, l, n, c, u⟩ := g
  have hn : n = 293 := hn
  subst hn
  have h2 : k 292 = 6 := h2
  have hc : 4 ≤ c := hc
  have hu : 51920 ≤ u := hu
  have m0 : u2 (z2 (z2 (z2 (z2 mi 293 0) 294 0) 295 0) 296 0) 293 1 (nI 2) = r2 (z2 (z2 (z2 (z2 mi 293 0) 294 0) 295 0) 296 0) 293 r00 := by
    rw [u2_r2, z2_o (by decide), z2_o (by decide), z2_o (by decide), z2_f]
    rfl
  generalize hk : u1 (u1 (u1 (u1 k 293 20) 294 21) 295 20) 296 21 = k'
  generalize hl : u1 (u1 (u1 (u1 l 293 480) 294 12500) 295 1440) 296 37500 = l'
  generalize hr : u2 (z2 (u2 (z2 (u2 (z2 (u2 (z2 mr 293 0) 292 0 293) 294 0) 292 1 294) 295 0) 292 2 295) 296 0) 292 3 296 = mr'
  have hg : MG (k', l', 297, c - 1 - 1 - 1 - 1, u - 480 - 12500 - 1440 - 37500) mr' := by
    refine ⟨?_, ?_, ?_, ?_, ?_, ?_, ?_, ?_, ?_, ?_, ?_, ?_, ?_⟩
    · show k' 292 = 6
      rw [← hk, u1_n (by decide), u1_n (by decide), u1_n (by decide), u1_n (by decide)]; exact h2
    · show k' 293 = 20
      rw [← hk, u1_n (by decide), u1_n (by decide), u1_n (by decide), u1_s]
    · show l' 293 = 480
      rw [← hl, u1_n (by decide), u1_n (by decide), u1_n (by decide), u1_s]
    · show k' 294 = 21
      rw [← hk, u1_n (by decide), u1_n (by decide), u1_s]
    · show l' 294 = 12500
      rw [← hl, u1_n (by decide), u1_n (by decide), u1_s]
    · show k' 295 = 20
      rw [← hk, u1_n (by decide), u1_s]
    · show l' 295 = 1440
      rw [← hl, u1_n (by decide), u1_s]
    · show k' 296 = 21
      rw [← hk, u1_s]
    · show l' 296 = 37500
      rw [← hl, u1_s]
    · rw [← hr, u2_oth (by decide), z2_o (by decide), u2_oth (by decide), z2_o (by decide), u2_oth (by decide), z2_o (by decide), u2_at]
    · rw [← hr, u2_oth (by decide), z2_o (by decide), u2_oth (by decide), z2_o (by decide), u2_at]
    · rw [← hr, u2_oth (by decide), z2_o (by decide), u2_at]
    · rw [← hr, u2_at]
  have mb := m_begins (d := d + 1) (mi := z2 (z2 (z2 (z2 mi 293 0) 294 0) 295 0) 296 0) (ml := z2 (z2 (z2 (z2 ml 293 0) 294 0) 295 0) 296 0) (r := r00) (z := nI 4) hg
  refine ⟨(k', l', 297, c - 1 - 1 - 1 - 1, u - 480 - 12500 - 1440 - 37500), r2 (z2 (z2 (z2 (z2 mi 293 0) 294 0) 295 0) 296 0) 293 rB0, z2 (z2 (z2 (z2 ml 293 0) 294 0) 295 0) 296 0, mr', ?_, hg, r2_s, ?_, ⟨rfl, ?_, ?_⟩, fun a ha => ⟨?_, ?_, ?_, ?_⟩⟩
  · have k6 : ∀ {F : Nat → Nat} {a b : Nat}, F 292 = 6 → ¬ 292 = a → u1 F a b 292 = 6 := fun h h9 => (u1_n h9).trans h
    have q1 : u1 k 293 20 292 = 6 := k6 h2 (by decide)
    have q2 : u1 (u1 k 293 20) 294 21 292 = 6 := k6 q1 (by decide)
    have q3 : u1 (u1 (u1 k 293 20) 294 21) 295 20 292 = 6 := k6 q2 (by decide)
    have hg1 := hg.1
    have hg2 := hg.2.1
    have hg3 := hg.2.2.1
    have hg10 := hg.2.2.2.2.2.2.2.2.2.1
    refine eX5_init.trans ?_
    refine wX5_init_0.trans ((wX5_init_1 (by show k 292 ≠ 0; rw [h2]; decide) (by show k 292 < 30; rw [h2]; decide) (Nat.le_of_ble_eq_true rfl)).trans ?_)
    refine wX5_init_4.trans (wX5_init_5.trans ((wX5_init_8 (j := 480) (by omega) (by show 1 ≤ c; omega) (by show 480 ≤ u; omega)).trans ?_))
    refine (wX5_init_10 (x := 292) (v := 293) q1 (by decide)).trans ?_
    refine wX5_init_13.trans (wX5_init_14.trans ((wX5_init_17 (j := 12500) (by omega) (by show 1 ≤ c - 1; omega) (by show 12500 ≤ u - 480; omega)).trans ?_))
    refine (wX5_init_19 (x := 292) (v := 294) q2 (by decide)).trans ?_
    refine wX5_init_22.trans (wX5_init_23.trans ((wX5_init_26 (j := 1440) (by omega) (by show 1 ≤ c - 1 - 1; omega) (by show 1440 ≤ u - 480 - 12500; omega)).trans ?_))
    refine (wX5_init_28 (x := 292) (v := 295) q3 (by decide)).trans ?_
    refine wX5_init_31.trans (wX5_init_32.trans ((wX5_init_34 (j := 37500) (by omega) (by show 1 ≤ c - 1 - 1 - 1; omega) (by show 37500 ≤ u - 480 - 12500 - 1440; omega)).trans ?_))
    refine (wX5_init_36 (x := 292) (v := 296) (show u1 (u1 (u1 (u1 k 293 20) 294 21) 295 20) 296 21 292 = 6 from k6 q3 (by decide)) (by decide)).trans ?_
    show R (d + 2) mX5_init 39 [.ref 292] [] (u1 (u1 (u1 (u1 k 293 20) 294 21) 295 20) 296 21, u1 (u1 (u1 (u1 l 293 480) 294 12500) 295 1440) 296 37500, 297, c - 1 - 1 - 1 - 1, u - 480 - 12500 - 1440 - 37500) (z2 (z2 (z2 (z2 mi 293 0) 294 0) 295 0) 296 0) (z2 (z2 (z2 (z2 ml 293 0) 294 0) 295 0) 296 0) (u2 (z2 (u2 (z2 (u2 (z2 (u2 (z2 mr 293 0) 292 0 293) 294 0) 292 1 294) 295 0) 292 2 295) 296 0) 292 3 296) = _
    rw [hk, hl, hr, wX5_init_39, wX5_init_40 hg1, hg10, wX5_init_43, wX5_init_44, wX5_init_45 hg2 (by rw [hg3]; decide) (by decide), m0, wX5_init_46, wX5_init_47, wX5_init_48 hg1 (Nat.le_of_ble_eq_true rfl)]
    have mb2 : callT (d + 2) mX5_begins [.ref 292, .int (nI 4)] ((k', l', 297, c - 1 - 1 - 1 - 1, u - 480 - 12500 - 1440 - 37500), r2 (z2 (z2 (z2 (z2 mi 293 0) 294 0) 295 0) 296 0) 293 r00, z2 (z2 (z2 (z2 ml 293 0) 294 0) 295 0) 296 0, mr') = _ := mb
    rw [mb2, aR_v (E := ()), wX5_init_51]
    rfl
  · rw [r2_n (by decide), z2_o (by decide), z2_o (by decide), z2_o (by decide), z2_o (by decide)]
  · show c - 1 - 1 - 1 - 1 + 4 = c
    omega
  · show u - 480 - 12500 - 1440 - 37500 + 51920 = u
    omega
  · show k' a = k a
    rw [← hk, u1_n (by omega), u1_n (by omega), u1_n (by omega), u1_n (by omega)]
  · show l' a = l a
    rw [← hl, u1_n (by omega), u1_n (by omega), u1_n (by omega), u1_n (by omega)]
  · rw [r2_n (by omega), z2_o (by omega), z2_o (by omega), z2_o (by omega), z2_o (by omega)]
  · rw [← hr, u2_row (by omega), z2_o (by omega), u2_row (by omega), z2_o (by omega), u2_row (by omega), z2_o (by omega), u2_row (by omega), z2_o (by omega)]
end LBEG
