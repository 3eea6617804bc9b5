/-! the class: its public calls -/
def CTr (E K : Nat) (S : Nat → PS) (P : PS) (g : Gh) (mi : MI) (ml : ML) (mr : MR) (o : Option Res) (ret : Option Value) : Prop := ∃ pm x1 x2 Ln g' mi' ml' mr', o = some (.inl ret, g', mi', ml', mr') ∧ TG E K S P pm x1 x2 Ln g' mi' mr' ∧ OX g mi ml mr g' mi' ml' mr'
def CTx (E K : Nat) (S : Nat → PS) (P : PS) (g : Gh) (mi : MI) (ml : ML) (mr : MR) (o : Option Res) (exn : String) : Prop := ∃ pm x1 x2 Ln g' mi' ml' mr', o = some (.inr exn, g', mi', ml', mr') ∧ TG E K S P pm x1 x2 Ln g' mi' mr' ∧ OX g mi ml mr g' mi' ml' mr'
section CPB1
variable {s s2 off N n n0 a1 a2 b1 b2 L M e c w k k0 v j f a d o t D p i C J B E K : Nat} {r r' r1 : Nat → Int32} {q q' : Nat → Int64} {g g' : Gh} {mi mi' m' : MI} {ml ml' l' : ML} {mr mr' : MR} {x1 x2 Ln pm : Nat → Nat} {S : Nat → PS} {P P' : PS} {X : Nat → Nat → Nat} {x y z : Int32}
/-- what a throw costs -/
def gX (g : Gh) : Gh := (g.1, g.2.1, g.2.2.1, g.2.2.2.1 - 1, g.2.2.2.2 - 6)
theorem TG.thr (h : TG (E + 1) K S P pm x1 x2 Ln g mi mr) : (1 ≤ g.2.2.2.1 ∧ 6 ≤ g.2.2.2.2) ∧ TG E K S P pm x1 x2 Ln (gX g) mi mr := by
  obtain ⟨t1, t2, ⟨t3, t4, t5, t6⟩, t7, t8⟩ := h
  have hL : ∀ k, k < 4 → Ln k ≤ 60000 := fun k hk => (t3 k hk).2.1.2.2.2.2.2.2.2.1
  have l0 := hL 0 (by decide)
  have l1 := hL 1 (by decide)
  have l2 := hL 2 (by decide)
  have l3 := hL 3 (by decide)
  refine ⟨⟨by omega, by omega⟩, t1, t2, ⟨t3, t4, ?_, ?_⟩, t7, t8⟩
  · show 310000 + E ≤ g.2.2.2.1 - 1 + (Ln 0 + Ln 1 + Ln 2 + Ln 3)
    omega
  · show 1320000 + 6 * E ≤ g.2.2.2.2 - 6 + 4 * (Ln 0 + Ln 1 + Ln 2 + Ln 3)
    omega
theorem TG.ctx (h : TG (E + 1) K S P pm x1 x2 Ln g mi mr) {exn : String} : CTx E K S P g mi ml mr (some (.inr exn, gX g, mi, ml, mr)) exn := ⟨pm, x1, x2, Ln, gX g, mi, ml, mr, rfl, h.thr.2, fun _ _ => ⟨rfl, rfl, rfl, rfl, rfl⟩⟩
theorem TG.less (h : TG (E + 1) K S P pm x1 x2 Ln g mi mr) : TG E K S P pm x1 x2 Ln g mi mr := by
  obtain ⟨t1, t2, ⟨t3, t4, t5, t6⟩, t7, t8⟩ := h
  exact ⟨t1, t2, ⟨t3, t4, by omega, by omega⟩, t7, t8⟩
theorem TG.ctr (h : TG E K S P pm x1 x2 Ln g mi mr) {ret : Option Value} : CTr E K S P g mi ml mr (some (.inl ret, g, mi, ml, mr)) ret := ⟨pm, x1, x2, Ln, g, mi, ml, mr, rfl, h, OX.rf⟩
/-- what there is to read -/
theorem TG.k2 (h : TG E K S P pm x1 x2 Ln g mi mr) : g.1 2 = 5 ∧ mr 2 2 = Ad (pm 3) ∧ g.1 (Ad (pm 3)) = 4 ∧ mr (Ad (pm 3)) 5 = Ad (pm 3) + 4 ∧ g.1 (Ad (pm 3) + 4) = 3 := by
  obtain ⟨⟨⟨t1, t2, t3⟩, -⟩, -, -, -, t8⟩ := h
  exact ⟨t1, t3, t8.1.1.1, t8.1.1.2.2.2.2, t8.1.2.2.1.1⟩
theorem TG.cs (h : TG E K S P pm x1 x2 Ln g mi mr) : CS (Ad (pm 3)) 0 (nC P.1) (nM P.1) (x1 (pm 3)) (x2 (pm 3)) (Ln (pm 3)) P.1 P.2 g mi mr := h.2.2.2.2
theorem TG.rm (h : TG E K S P pm x1 x2 Ln g mi mr) : RmC (Ln (pm 3)) g := h.2.2.1.rm (h.2.1.1 3 (by decide))
theorem JI.nC (hJ : JI X B N t D r q) : nC r = N := by
  obtain ⟨hh, hb, hJ⟩ := hJ
  exact nC_of hJ.fs.2.2.2.2.1 hJ.fs.2.2.2.1
theorem JI.fs (hJ : JI X B N t D r q) : FS N t D r := by
  obtain ⟨hh, hb, hJ⟩ := hJ
  exact hJ.fs
/-- one place of now is written -/
theorem TG.wr (h : TG E K S P pm x1 x2 Ln g mi mr) (hc : CS (Ad (pm 3)) 0 N n (x1 (pm 3)) (x2 (pm 3)) (Ln (pm 3)) r q g (u2 mi a f z) mr) (ha : Ad (pm 3) ≤ a) (ha2 : a < Ad (pm 3) + 72) (h5 : r 5 = nI N) (hN : N ≤ 40) : TG E K S (r, q) pm x1 x2 Ln g (u2 mi a f z) mr ∧ OX g mi ml mr g (u2 mi a f z) ml mr := by
  have T1 : Tr (Ad (pm 3)) (x1 (pm 3)) (x2 (pm 3)) (Ln (pm 3)) g mi ml mr (x1 (pm 3)) (x2 (pm 3)) (Ln (pm 3)) g (u2 mi a f z) ml mr := Tr.rf.up ha ha2
  have hu : ∀ F : Nat → Nat, u1 F (pm 3) (F (pm 3)) = F := fun F => u1_id rfl
  obtain ⟨⟨⟨t1, t2, t3⟩, ⟨t4, t5, t6⟩, t7, t8⟩, ⟨p1, p2⟩, hS, hK, hP⟩ := h
  have h3 := p1 3 (by decide)
  have hb := Ad_b h3
  have hof := hS.of h3 T1
  have hS2 := hS.up h3 hc.ds T1
  rw [hu, hu, hu] at hS2
  have hn' : n < 1000000 := by have := hc.2.2.2.1.2.2.1; have := hc.2.1.2.2.2.2.2.2.2.1; omega
  refine ⟨⟨⟨⟨t1, t2, t3⟩, ⟨t4, t5, t6⟩, by rw [u2_row (by omega)]; exact t7, t8⟩, ⟨p1, p2⟩, hS2, fun i hi => ?_, ?_⟩, hof.ox⟩
  · exact hS.cs h3 (p1 i (by omega)) (p2 i 3 (by omega) (by decide) (by omega)) T1 (hK i hi)
  · rw [nC_of h5 hN, nM_of hc.2.2.2.1.1 hn']
    exact hc
theorem c_reqX1 (he : e < 2) : callT (d + 1) mX4_requireExchange [.ref 2, .int (nI e)] (g, mi, ml, mr) = some (.inl none, g, mi, ml, mr) := by
  have h1 : ¬ nI e < nI 0 := nI_nlt (by omega) (by omega)
  have h2 : nI e < nI 2 := nI_lt he (by omega)
  rw [eX4_requireExchange]
  simp only [wX4_requireExchange_0, wX4_requireExchange_1, wX4_requireExchange_4, wX4_requireExchange_5, wX4_requireExchange_6, wX4_requireExchange_9, wX4_requireExchange_12, wX4_requireExchange_19, h1, h2, if_false, if_true]
theorem c_reqX0 (hx : ¬ isX x) (h1 : 1 ≤ g.2.2.2.1) (h2 : 6 ≤ g.2.2.2.2) : callT (d + 7) mX4_requireExchange [.ref 2, .int x] (g, mi, ml, mr) = some (.inr "java/lang/IndexOutOfBoundsException", gX g, mi, ml, mr) := by
  rw [eX4_requireExchange]
  by_cases p : x < nI 0
  · simp only [wX4_requireExchange_0, wX4_requireExchange_1, wX4_requireExchange_4, wX4_requireExchange_5, wX4_requireExchange_6, wX4_requireExchange_9, wX4_requireExchange_12, wX4_requireExchange_19, p, if_true, h1, h2, cs_0]
    rfl
  · have p2 : ¬ x < nI 2 := fun h9 => hx ⟨Int32.not_lt.mp p, by
      obtain ⟨j, hj, rfl⟩ := nI_of (x := x) (fun h8 => p h8)
      have := (nI_ltI (by omega) (by decide)).mp h9
      exact nI_le (by omega) (by decide)⟩
    simp only [wX4_requireExchange_0, wX4_requireExchange_1, wX4_requireExchange_4, wX4_requireExchange_5, wX4_requireExchange_6, wX4_requireExchange_9, wX4_requireExchange_12, wX4_requireExchange_19, p, p2, if_false, h1, h2, cs_0]
    rfl
/-- setDelay -/
theorem k_setDelay1 (h : TG E K S (r, q) pm x1 x2 Ln g mi mr) (hJ : JI X B N t D r q) (h1 : 1 ≤ n) (h2 : n ≤ 20) : CTr E (svK K) (svS K S (r, q)) (u1 r 1 (nI n), q) g mi ml mr (callT (d + 5) mX4_setDelay [.ref 2, .int (nI n)] (g, mi, ml, mr)) (some (.int (r 1))) := by
  obtain ⟨k1, k2, k3, k4, k5⟩ := h.k2
  have v1 : mi (Ad (pm 3) + 4) 1 = r 1 := h.cs.lv (j := 1) (by decide) (by decide) rfl rfl
  obtain ⟨pm', y1, y2, Lm, g', mi', ml', mr', e1, e2, e3, e4⟩ := c_save (d := d) (ml := ml) h hJ
  obtain ⟨m1, m2, m3, m4, m5⟩ := e2.k2
  have c1 : ¬ nI n < nI 1 := nI_nlt h1 (by omega)
  have c2 : nI n ≤ nI 20 := nI_le h2 (by decide)
  have hF := hJ.fs
  have hx := e2.cs.lo (j := 1) (a := Ad (pm' 3) + 4) (f := 1) (z := nI n) (by decide) (by decide) (fun h9 => absurd h9 (by decide)) rfl rfl
  obtain ⟨w1, w2⟩ := e2.wr (ml := ml') hx (by omega) (by omega) (by show u1 r 1 (nI n) 5 = nI (nC r); rw [u1_n (by decide), hJ.nC]; exact hF.2.2.2.2.1) (by rw [hJ.nC]; exact hF.2.2.2.1)
  refine ⟨pm', y1, y2, Lm, g', _, ml', mr', ?_, w1, e3.tr w2⟩
  rw [eX4_setDelay]
  simp only [wX4_setDelay_0, wX4_setDelay_1, wX4_setDelay_2, wX4_setDelay_5, wX4_setDelay_6, wX4_setDelay_8, wX4_setDelay_11, wX4_setDelay_14, wX4_setDelay_21, wX4_setDelay_22, wX4_setDelay_25, wX4_setDelay_28, wX4_setDelay_31i, wX4_setDelay_31r, wX4_setDelay_31n, wX4_setDelay_32, wX4_setDelay_33, wX4_setDelay_36, wX4_setDelay_37, wX4_setDelay_40, wX4_setDelay_43, wX4_setDelay_44, wX4_setDelay_47, wX4_setDelay_48, c1, c2, if_false, if_true, k1, k2, k3, k4, k5, v1, cs_0, cs_i, cs_r, e1, aR_v, m1, m2, m3, m4, m5]
theorem k_setDelay0 (h : TG (E + 1) K S (r, q) pm x1 x2 Ln g mi mr) (hz : ¬ (nI 1 ≤ z ∧ z ≤ nI 20)) : CTx E K S (r, q) g mi ml mr (callT (d + 7) mX4_setDelay [.ref 2, .int z] (g, mi, ml, mr)) "java/lang/IllegalArgumentException" := by
  obtain ⟨⟨h1, h2⟩, -⟩ := h.thr
  rw [eX4_setDelay]
  by_cases p : z < nI 1
  · simp only [wX4_setDelay_0, wX4_setDelay_1, wX4_setDelay_2, wX4_setDelay_5, wX4_setDelay_6, wX4_setDelay_8, wX4_setDelay_11, wX4_setDelay_14, wX4_setDelay_21, wX4_setDelay_22, wX4_setDelay_25, wX4_setDelay_28, wX4_setDelay_31i, wX4_setDelay_31r, wX4_setDelay_31n, wX4_setDelay_32, wX4_setDelay_33, wX4_setDelay_36, wX4_setDelay_37, wX4_setDelay_40, wX4_setDelay_43, wX4_setDelay_44, wX4_setDelay_47, wX4_setDelay_48, p, if_true, h1, h2, cs_0]
    exact h.ctx
  · have p2 : ¬ z ≤ nI 20 := fun h9 => hz ⟨Int32.not_lt.mp p, h9⟩
    simp only [wX4_setDelay_0, wX4_setDelay_1, wX4_setDelay_2, wX4_setDelay_5, wX4_setDelay_6, wX4_setDelay_8, wX4_setDelay_11, wX4_setDelay_14, wX4_setDelay_21, wX4_setDelay_22, wX4_setDelay_25, wX4_setDelay_28, wX4_setDelay_31i, wX4_setDelay_31r, wX4_setDelay_31n, wX4_setDelay_32, wX4_setDelay_33, wX4_setDelay_36, wX4_setDelay_37, wX4_setDelay_40, wX4_setDelay_43, wX4_setDelay_44, wX4_setDelay_47, wX4_setDelay_48, p, p2, if_false, h1, h2, cs_0]
    exact h.ctx
theorem isC_c (h : TG E K S (r, q) pm x1 x2 Ln g mi mr) (h0 : r 0 = nI C) (hC1 : 1 ≤ C) (hC : C ≤ 12) (hc : c < C) : callT (d + 1) mX4_requireCircuit [.ref 2, .int (nI c)] (g, mi, ml, mr) = some (.inl none, g, mi, ml, mr) := by
  obtain ⟨k1, k2, k3, -, -⟩ := h.k2
  have v0 : mi (Ad (pm 3)) 0 = nI C := (h.cs.lv (j := 0) (a := Ad (pm 3)) (f := 0) (by decide) (by decide) rfl rfl).trans h0
  have c1 : ¬ nI c < nI 0 := nI_nlt (by omega) (by omega)
  have c2 : nI c < nI C := nI_lt hc (by omega)
  rw [eX4_requireCircuit]
  simp only [wX4_requireCircuit_0, wX4_requireCircuit_1, wX4_requireCircuit_4, wX4_requireCircuit_5, wX4_requireCircuit_6, wX4_requireCircuit_9, wX4_requireCircuit_12, wX4_requireCircuit_15, wX4_requireCircuit_18, wX4_requireCircuit_25, c1, c2, if_false, if_true, k1, k2, k3, v0]
theorem isC_x (h : TG E K S (r, q) pm x1 x2 Ln g mi mr) (h0 : r 0 = nI C) (hC1 : 1 ≤ C) (hC : C ≤ 12) (hx : ¬ isC r x) (h1 : 1 ≤ g.2.2.2.1) (h2 : 6 ≤ g.2.2.2.2) : callT (d + 7) mX4_requireCircuit [.ref 2, .int x] (g, mi, ml, mr) = some (.inr "java/lang/IndexOutOfBoundsException", gX g, mi, ml, mr) := by
  obtain ⟨k1, k2, k3, -, -⟩ := h.k2
  have v0 : mi (Ad (pm 3)) 0 = nI C := (h.cs.lv (j := 0) (a := Ad (pm 3)) (f := 0) (by decide) (by decide) rfl rfl).trans h0
  rw [eX4_requireCircuit]
  by_cases p : x < nI 0
  · simp only [wX4_requireCircuit_0, wX4_requireCircuit_1, wX4_requireCircuit_4, wX4_requireCircuit_5, wX4_requireCircuit_6, wX4_requireCircuit_9, wX4_requireCircuit_12, wX4_requireCircuit_15, wX4_requireCircuit_18, wX4_requireCircuit_25, p, if_true, h1, h2, cs_0]
    rfl
  · have p2 : ¬ x < nI C := fun h9 => by
      obtain ⟨j, hj, rfl⟩ := nI_of (x := x) (fun h8 => p h8)
      have := (nI_ltI (by omega) (by omega)).mp h9
      exact hx (isC_n h0 hC1 hC this)
    simp only [wX4_requireCircuit_0, wX4_requireCircuit_1, wX4_requireCircuit_4, wX4_requireCircuit_5, wX4_requireCircuit_6, wX4_requireCircuit_9, wX4_requireCircuit_12, wX4_requireCircuit_15, wX4_requireCircuit_18, wX4_requireCircuit_25, p, p2, if_false, k1, k2, k3, v0, h1, h2, cs_0]
    rfl
theorem c_reqE1 (h : TG E K S (r, q) pm x1 x2 Ln g mi mr) (h0 : r 0 = nI C) (hC1 : 1 ≤ C) (hC : C ≤ 12) (he : e < 2) (hc : c < C) : callT (d + 2) mX4_requireEnd [.ref 2, .int (nI e), .int (nI c)] (g, mi, ml, mr) = some (.inl none, g, mi, ml, mr) := by
  have k1 := h.k2.1
  rw [eX4_requireEnd]
  simp only [wX4_requireEnd_0, wX4_requireEnd_1, wX4_requireEnd_2, wX4_requireEnd_5, wX4_requireEnd_6, wX4_requireEnd_7, wX4_requireEnd_10, k1, cs_0, cs_i, cs_r, c_reqX1 he, isC_c h h0 hC1 hC hc, aR_v]
theorem c_reqE0 (h : TG E K S (r, q) pm x1 x2 Ln g mi mr) (h0 : r 0 = nI C) (hC1 : 1 ≤ C) (hC : C ≤ 12) (hx : ¬ (isX x ∧ isC r y)) (h1 : 1 ≤ g.2.2.2.1) (h2 : 6 ≤ g.2.2.2.2) : callT (d + 8) mX4_requireEnd [.ref 2, .int x, .int y] (g, mi, ml, mr) = some (.inr "java/lang/IndexOutOfBoundsException", gX g, mi, ml, mr) := by
  have k1 := h.k2.1
  rw [eX4_requireEnd]
  have hH : mH mX4_requireEnd = [] := rfl
  by_cases p : isX x
  · have p2 : ¬ isC r y := fun h9 => hx ⟨p, h9⟩
    obtain ⟨e, he, rfl⟩ := isX_e p
    simp only [wX4_requireEnd_0, wX4_requireEnd_1, wX4_requireEnd_2, wX4_requireEnd_5, wX4_requireEnd_6, wX4_requireEnd_7, wX4_requireEnd_10, k1, cs_0, cs_i, cs_r, c_reqX1 he, aR_v, isC_x h h0 hC1 hC p2 h1 h2, aR_x hH]
  · simp only [wX4_requireEnd_0, wX4_requireEnd_1, wX4_requireEnd_2, wX4_requireEnd_5, wX4_requireEnd_6, wX4_requireEnd_7, wX4_requireEnd_10, k1, cs_0, cs_i, cs_r, c_reqX0 p h1 h2, aR_x hH]
/-- setFaulty -/
theorem k_setFa1 (h : TG E K S (r, q) pm x1 x2 Ln g mi mr) (hJ : JI X B N t D r q) (h0 : r 0 = nI C) (hC1 : 1 ≤ C) (hC : C ≤ 12) (hc : c < C) (hz : z = nI 0 ∨ z = nI 1) : CTr E (svK K) (svS K S (r, q)) (u1 r (12 + c) z, q) g mi ml mr (callT (d + 5) mX4_setFaulty [.ref 2, .int (nI c), .int z] (g, mi, ml, mr)) (some (.int (r (12 + c)))) := by
  obtain ⟨k1, k2, k3, k4, k5⟩ := h.k2
  have hF := hJ.fs
  have la : lA (12 + c) = 1 := by unfold lA; rw [if_neg (by omega), if_pos (by omega)]
  have lf : lF (12 + c) = c := by unfold lF; rw [if_neg (by omega), if_pos (by omega)]; omega
  have v1 : mi (Ad (pm 3) + 1) c = r (12 + c) := h.cs.lv (j := 12 + c) (by omega) (by omega) (by rw [la]) lf
  obtain ⟨pm', y1, y2, Lm, g', mi', ml', mr', e1, e2, e3, e4⟩ := c_save (d := d) (ml := ml) h hJ
  obtain ⟨m1, m2, m3, m4, m5⟩ := e2.k2
  obtain ⟨⟨⟨-, n2, -⟩, ⟨n6, n7, -⟩, -⟩, -⟩ := h.cs
  obtain ⟨⟨⟨-, o2, -⟩, ⟨o6, o7, -⟩, -⟩, -⟩ := e2.cs
  have q1 : c < 12 := by omega
  have q2 : c < 2147483648 := by omega
  have hx := e2.cs.lo (j := 12 + c) (a := Ad (pm' 3) + 1) (f := c) (z := z) (by omega) (by omega) (fun h9 => by omega) (by rw [la]) lf
  obtain ⟨w1, w2⟩ := e2.wr (ml := ml') hx (by omega) (by omega) (by show u1 r (12 + c) z 5 = nI (nC r); rw [u1_n (by omega), hJ.nC]; exact hF.2.2.2.2.1) (by rw [hJ.nC]; exact hF.2.2.2.1)
  obtain ⟨hh, hb, hJ'⟩ := hJ
  obtain ⟨kk, kk1, kk2⟩ := hJ'.1.2.2.1 c q1
  have hv : r (12 + c) = nI 0 ∨ r (12 + c) = nI 1 := by
    rw [kk2]
    have : kk = 0 ∨ kk = 1 := by omega
    rcases this with rfl | rfl
    · exact Or.inl rfl
    · exact Or.inr rfl
  refine ⟨pm', y1, y2, Lm, g', _, ml', mr', ?_, w1, e3.tr w2⟩
  rw [eX4_setFaulty]
  simp only [wX4_setFaulty_0, wX4_setFaulty_1, wX4_setFaulty_2, wX4_setFaulty_5, wX4_setFaulty_6, wX4_setFaulty_9, wX4_setFaulty_12, wX4_setFaulty_13, wX4_setFaulty_14i, wX4_setFaulty_14r, wX4_setFaulty_14n, wX4_setFaulty_15, wX4_setFaulty_16, wX4_setFaulty_19, wX4_setFaulty_20, wX4_setFaulty_23, wX4_setFaulty_26, wX4_setFaulty_27, wX4_setFaulty_28, wX4_setFaulty_29, wX4_setFaulty_30, k1, k2, k3, cs_0, cs_i, cs_r, isC_c h h0 hC1 hC hc, aR_v, n2, n6, n7, q1, q2, v1, e1, m1, m2, m3, o2, o6, o7, hz, hv]
theorem k_setFa0 (h : TG (E + 1) K S (r, q) pm x1 x2 Ln g mi mr) (h0 : r 0 = nI C) (hC1 : 1 ≤ C) (hC : C ≤ 12) (hx : ¬ isC r x) : CTx E K S (r, q) g mi ml mr (callT (d + 8) mX4_setFaulty [.ref 2, .int x, .int z] (g, mi, ml, mr)) "java/lang/IndexOutOfBoundsException" := by
  obtain ⟨⟨h1, h2⟩, -⟩ := h.thr
  have k1 := h.k2.1
  have hH : mH mX4_setFaulty = [] := rfl
  rw [eX4_setFaulty]
  simp only [wX4_setFaulty_0, wX4_setFaulty_1, wX4_setFaulty_2, wX4_setFaulty_5, wX4_setFaulty_6, wX4_setFaulty_9, wX4_setFaulty_12, wX4_setFaulty_13, wX4_setFaulty_14i, wX4_setFaulty_14r, wX4_setFaulty_14n, wX4_setFaulty_15, wX4_setFaulty_16, wX4_setFaulty_19, wX4_setFaulty_20, wX4_setFaulty_23, wX4_setFaulty_26, wX4_setFaulty_27, wX4_setFaulty_28, wX4_setFaulty_29, wX4_setFaulty_30, k1, cs_0, cs_i, cs_r, isC_x h h0 hC1 hC hx h1 h2, aR_x hH]
  exact h.ctx
/-- loseNext -/
theorem k_lose1 (h : TG E K S (r, q) pm x1 x2 Ln g mi mr) (hJ : JI X B N t D r q) (he : e < 2) (hz : nI 0 ≤ z ∧ z ≤ nI 100) : CTr E (svK K) (svS K S (r, q)) (u1 r (3 + e) z, q) g mi ml mr (callT (d + 5) mX4_loseNext [.ref 2, .int (nI e), .int z] (g, mi, ml, mr)) (some (.int (r (3 + e)))) := by
  obtain ⟨k1, k2, k3, k4, k5⟩ := h.k2
  have hF := hJ.fs
  have la3 : lA (3 + e) = 5 ∧ lF (3 + e) = e := by
    have : e = 0 ∨ e = 1 := by omega
    rcases this with rfl | rfl <;> exact ⟨rfl, rfl⟩
  have v1 : mi (Ad (pm 3) + 5) e = r (3 + e) := h.cs.lv (j := 3 + e) (by omega) (by omega) (by rw [la3.1]) la3.2
  obtain ⟨pm', y1, y2, Lm, g', mi', ml', mr', e1, e2, e3, e4⟩ := c_save (d := d) (ml := ml) h hJ
  obtain ⟨m1, m2, m3, m4, m5⟩ := e2.k2
  obtain ⟨⟨-, -, ⟨-, n2, n6, n7⟩, -, -⟩, -⟩ := h.cs
  obtain ⟨⟨-, -, ⟨-, o2, o6, o7⟩, -, -⟩, -⟩ := e2.cs
  have q2 : e < 2147483648 := by omega
  have c1 : ¬ z < nI 0 := Int32.not_lt.mpr hz.1
  have c2 : z ≤ nI 100 := hz.2
  have hx := e2.cs.lo (j := 3 + e) (a := Ad (pm' 3) + 5) (f := e) (z := z) (by omega) (by omega) (fun h9 => by omega) (by rw [la3.1]) la3.2
  obtain ⟨w1, w2⟩ := e2.wr (ml := ml') hx (by omega) (by omega) (by show u1 r (3 + e) z 5 = nI (nC r); rw [u1_n (by omega), hJ.nC]; exact hF.2.2.2.2.1) (by rw [hJ.nC]; exact hF.2.2.2.1)
  refine ⟨pm', y1, y2, Lm, g', _, ml', mr', ?_, w1, e3.tr w2⟩
  rw [eX4_loseNext]
  simp only [wX4_loseNext_0, wX4_loseNext_1, wX4_loseNext_2, wX4_loseNext_5, wX4_loseNext_6, wX4_loseNext_9, wX4_loseNext_10, wX4_loseNext_12, wX4_loseNext_15, wX4_loseNext_18, wX4_loseNext_25, wX4_loseNext_26, wX4_loseNext_29, wX4_loseNext_32, wX4_loseNext_35, wX4_loseNext_36, wX4_loseNext_37i, wX4_loseNext_37r, wX4_loseNext_37n, wX4_loseNext_38, wX4_loseNext_39, wX4_loseNext_42, wX4_loseNext_43, wX4_loseNext_46, wX4_loseNext_49, wX4_loseNext_52, wX4_loseNext_53, wX4_loseNext_54, wX4_loseNext_55, wX4_loseNext_56, k1, k2, k3, k4, k5, cs_0, cs_i, cs_r, c_reqX1 he, aR_v, c1, c2, if_false, if_true, n2, n6, n7, he, q2, v1, e1, m1, m2, m3, m4, m5, o2, o6, o7]
theorem k_lose0 (h : TG (E + 1) K S (r, q) pm x1 x2 Ln g mi mr) (hx : ¬ isX x) : CTx E K S (r, q) g mi ml mr (callT (d + 8) mX4_loseNext [.ref 2, .int x, .int z] (g, mi, ml, mr)) "java/lang/IndexOutOfBoundsException" := by
  obtain ⟨⟨h1, h2⟩, -⟩ := h.thr
  have k1 := h.k2.1
  have hH : mH mX4_loseNext = [] := rfl
  rw [eX4_loseNext]
  simp only [wX4_loseNext_0, wX4_loseNext_1, wX4_loseNext_2, wX4_loseNext_5, wX4_loseNext_6, wX4_loseNext_9, wX4_loseNext_10, wX4_loseNext_12, wX4_loseNext_15, wX4_loseNext_18, wX4_loseNext_25, wX4_loseNext_26, wX4_loseNext_29, wX4_loseNext_32, wX4_loseNext_35, wX4_loseNext_36, wX4_loseNext_37i, wX4_loseNext_37r, wX4_loseNext_37n, wX4_loseNext_38, wX4_loseNext_39, wX4_loseNext_42, wX4_loseNext_43, wX4_loseNext_46, wX4_loseNext_49, wX4_loseNext_52, wX4_loseNext_53, wX4_loseNext_54, wX4_loseNext_55, wX4_loseNext_56, k1, cs_0, cs_i, cs_r, c_reqX0 hx h1 h2, aR_x hH]
  exact h.ctx
theorem k_lose2 (h : TG (E + 1) K S (r, q) pm x1 x2 Ln g mi mr) (he : e < 2) (hz : ¬ (nI 0 ≤ z ∧ z ≤ nI 100)) : CTx E K S (r, q) g mi ml mr (callT (d + 7) mX4_loseNext [.ref 2, .int (nI e), .int z] (g, mi, ml, mr)) "java/lang/IllegalArgumentException" := by
  obtain ⟨⟨h1, h2⟩, -⟩ := h.thr
  have k1 := h.k2.1
  rw [eX4_loseNext]
  by_cases p : z < nI 0
  · simp only [wX4_loseNext_0, wX4_loseNext_1, wX4_loseNext_2, wX4_loseNext_5, wX4_loseNext_6, wX4_loseNext_9, wX4_loseNext_10, wX4_loseNext_12, wX4_loseNext_15, wX4_loseNext_18, wX4_loseNext_25, wX4_loseNext_26, wX4_loseNext_29, wX4_loseNext_32, wX4_loseNext_35, wX4_loseNext_36, wX4_loseNext_37i, wX4_loseNext_37r, wX4_loseNext_37n, wX4_loseNext_38, wX4_loseNext_39, wX4_loseNext_42, wX4_loseNext_43, wX4_loseNext_46, wX4_loseNext_49, wX4_loseNext_52, wX4_loseNext_53, wX4_loseNext_54, wX4_loseNext_55, wX4_loseNext_56, k1, cs_0, cs_i, cs_r, c_reqX1 he, aR_v, p, if_true, h1, h2]
    exact h.ctx
  · have p2 : ¬ z ≤ nI 100 := fun h9 => hz ⟨Int32.not_lt.mp p, h9⟩
    simp only [wX4_loseNext_0, wX4_loseNext_1, wX4_loseNext_2, wX4_loseNext_5, wX4_loseNext_6, wX4_loseNext_9, wX4_loseNext_10, wX4_loseNext_12, wX4_loseNext_15, wX4_loseNext_18, wX4_loseNext_25, wX4_loseNext_26, wX4_loseNext_29, wX4_loseNext_32, wX4_loseNext_35, wX4_loseNext_36, wX4_loseNext_37i, wX4_loseNext_37r, wX4_loseNext_37n, wX4_loseNext_38, wX4_loseNext_39, wX4_loseNext_42, wX4_loseNext_43, wX4_loseNext_46, wX4_loseNext_49, wX4_loseNext_52, wX4_loseNext_53, wX4_loseNext_54, wX4_loseNext_55, wX4_loseNext_56, k1, cs_0, cs_i, cs_r, c_reqX1 he, aR_v, p, p2, if_false, h1, h2]
    exact h.ctx
end CPB1
