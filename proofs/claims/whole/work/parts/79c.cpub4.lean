/-! the class: its public calls: call, reset, tick -/
section CPB4
variable {s s2 off N n n0 a1 a2 b1 b2 L M e c w k k0 v j f a b d o t D p i C J B E K from_ cnt : Nat} {r r' r1 : Nat → Int32} {q q' : Nat → Int64} {g g' : Gh} {mi mi' m' : MI} {ml ml' l' : ML} {mr mr' : MR} {x1 x2 Ln pm : Nat → Nat} {S : Nat → PS} {P P' : PS} {X : Nat → Nat → Nat} {x y z : Int32}
theorem CTr.trx {g2 : Gh} {m2 : MI} {l2 : ML} {r2' : MR} {oo : Option Res} {ret : Option Value} (h : CTr E K S P g' mi' ml' mr' oo ret) (hx : OX g mi ml mr g' mi' ml' mr') : CTr E K S P g mi ml mr oo ret := by
  obtain ⟨pm, x1, x2, Ln, g2, m2, l2, r2', e1, e2, e3⟩ := h
  exact ⟨pm, x1, x2, Ln, g2, m2, l2, r2', e1, e2, hx.tr e3⟩
theorem FS.rst (h : FS N t D r) (he : e < 2) (hc : c < 12) : FS N t D (pRst r q e c).1 := by
  rw [pRst_st]
  exact (h.pendO.send he).en (o := 0) he hc (Nat.zero_le N)
theorem rs_k (he : e < 2) (hb : b < 12) {u : Value} : ∀ j c cnt r q pm x1 x2 Ln g mi ml mr (u : Value), c + j = b + 1 → TG E K S (r, q) pm x1 x2 Ln g mi mr → FS N t D r → Rm r j → CTr E K S (pRs e j c (r, q)) g mi ml mr (R (d + 4) mX4_reset 40 [.ref 2, .int (nI e), .int (nI a), .int (nI b), .int (nI cnt), .int (nI c), u] [] g mi ml mr) (some (.int (nI (cnt + nRs e j c (r, q))))) := by
  intro j
  induction j with
  | zero =>
    intro c cnt r q pm x1 x2 Ln g mi ml mr u hc h hF hR
    have c1 : ¬ nI c ≤ nI b := by rw [nI_leI (by omega) (by omega)]; omega
    have c2 : nI b < nI c := Int32.not_le.mp c1
    rw [wX4_reset_40]
    simp only [wX4_reset_0, wX4_reset_1, wX4_reset_2, wX4_reset_5, wX4_reset_6, wX4_reset_7, wX4_reset_10, wX4_reset_11, wX4_reset_12, wX4_reset_15, wX4_reset_16, wX4_reset_17, wX4_reset_20, wX4_reset_23, wX4_reset_30, wX4_reset_31, wX4_reset_34, wX4_reset_35i, wX4_reset_35r, wX4_reset_35n, wX4_reset_37, wX4_reset_38i, wX4_reset_38r, wX4_reset_38n, wX4_reset_42, wX4_reset_43, wX4_reset_46, wX4_reset_47, wX4_reset_50, wX4_reset_51, wX4_reset_53, wX4_reset_56i, wX4_reset_56r, wX4_reset_56n, wX4_reset_58, wX4_reset_60, wX4_reset_63, wX4_reset_66i, wX4_reset_66r, wX4_reset_66n, wX4_reset_69, wX4_reset_70, wX4_reset_73, wX4_reset_75, wX4_reset_78i, wX4_reset_78r, wX4_reset_78n, wX4_reset_81, wX4_reset_84, wX4_reset_86, c1, c2, if_true, if_false]
    exact h.ctr
  | succ j ih =>
    intro c cnt r q pm x1 x2 Ln g mi ml mr u hc h hF hR
    have hc12 : c < 12 := by omega
    have c1 : nI c ≤ nI b := by rw [nI_leI (by omega) (by omega)]; omega
    have c2 : ¬ nI b < nI c := Int32.not_lt.mpr c1
    obtain ⟨k1, k2, k3, k4, k5⟩ := h.k2
    have hnC : nC r = N := nC_of hF.2.2.2.2.1 hF.2.2.2.1
    have hcs := h.cs
    rw [show nC (r, q).1 = N from hnC] at hcs
    have kE := hcs.kE he hc12
    have v2 : mi (eA (Ad (pm 3)) e c) 2 = r (eI e c 0) := hcs.ev he hc12 (w := 0) (by decide) rfl
    have hF2 := hF.rst (q := q) (e := e) (c := c) he hc12
    obtain ⟨z1, z2', Lz, g3, i3, l3, r3', w1, w2, w3⟩ := h.now (P' := pRst r q e c) (c_rst (d := d) (ml := ml) hcs h.rm hF (hR.mono rfl (by omega)) he hc12) hF2.2.2.2.2.1 hF2.2.2.2.1
    have e1 := (ih (c + 1) (cnt + (if r (eI e c 0) = nI 0 then 1 else 0)) (pRst r q e c).1 (pRst r q e c).2 pm z1 z2' Lz g3 i3 l3 r3' (.ref (eA (Ad (pm 3)) e c)) (by omega) w2 hF2 (hR.rst (q := q) he hc12)).trx (g2 := g3) (m2 := i3) (l2 := l3) (r2' := r3') w3.ox
    have e2 : cnt + (if r (eI e c 0) = nI 0 then 1 else 0) + nRs e j (c + 1) ((pRst r q e c).1, (pRst r q e c).2) = cnt + nRs e (j + 1) c (r, q) := by
      show cnt + (if r (eI e c 0) = nI 0 then 1 else 0) + nRs e j (c + 1) (pRst r q e c) = cnt + ((if r (eI e c 0) = nI 0 then 1 else 0) + nRs e j (c + 1) (pRst r q e c))
      omega
    rw [e2] at e1
    rw [wX4_reset_40]
    by_cases p : r (eI e c 0) = nI 0
    · rw [if_pos p] at e1
      simp only [wX4_reset_0, wX4_reset_1, wX4_reset_2, wX4_reset_5, wX4_reset_6, wX4_reset_7, wX4_reset_10, wX4_reset_11, wX4_reset_12, wX4_reset_15, wX4_reset_16, wX4_reset_17, wX4_reset_20, wX4_reset_23, wX4_reset_30, wX4_reset_31, wX4_reset_34, wX4_reset_35i, wX4_reset_35r, wX4_reset_35n, wX4_reset_37, wX4_reset_38i, wX4_reset_38r, wX4_reset_38n, wX4_reset_42, wX4_reset_43, wX4_reset_46, wX4_reset_47, wX4_reset_50, wX4_reset_51, wX4_reset_53, wX4_reset_56i, wX4_reset_56r, wX4_reset_56n, wX4_reset_58, wX4_reset_60, wX4_reset_63, wX4_reset_66i, wX4_reset_66r, wX4_reset_66n, wX4_reset_69, wX4_reset_70, wX4_reset_73, wX4_reset_75, wX4_reset_78i, wX4_reset_78r, wX4_reset_78n, wX4_reset_81, wX4_reset_84, wX4_reset_86, c1, c2, if_true, if_false, k1, k2, k3, cs_0, cs_i, cs_r, c_endAt hcs he hc12, aR_1, aR_v, kE, v2, p, nI_add, w1]
      exact e1
    · rw [if_neg p] at e1
      simp only [wX4_reset_0, wX4_reset_1, wX4_reset_2, wX4_reset_5, wX4_reset_6, wX4_reset_7, wX4_reset_10, wX4_reset_11, wX4_reset_12, wX4_reset_15, wX4_reset_16, wX4_reset_17, wX4_reset_20, wX4_reset_23, wX4_reset_30, wX4_reset_31, wX4_reset_34, wX4_reset_35i, wX4_reset_35r, wX4_reset_35n, wX4_reset_37, wX4_reset_38i, wX4_reset_38r, wX4_reset_38n, wX4_reset_42, wX4_reset_43, wX4_reset_46, wX4_reset_47, wX4_reset_50, wX4_reset_51, wX4_reset_53, wX4_reset_56i, wX4_reset_56r, wX4_reset_56n, wX4_reset_58, wX4_reset_60, wX4_reset_63, wX4_reset_66i, wX4_reset_66r, wX4_reset_66n, wX4_reset_69, wX4_reset_70, wX4_reset_73, wX4_reset_75, wX4_reset_78i, wX4_reset_78r, wX4_reset_78n, wX4_reset_81, wX4_reset_84, wX4_reset_86, c1, c2, if_true, if_false, k1, k2, k3, cs_0, cs_i, cs_r, c_endAt hcs he hc12, aR_1, aR_v, kE, v2, p, nI_add, w1]
      exact e1
theorem k_reset1 (h : TG E K S (r, q) pm x1 x2 Ln g mi mr) (hJ : JI X B N t D r q) (hB : B ≤ 12012) (h0 : r 0 = nI C) (hC1 : 1 ≤ C) (hC : C ≤ 12) (he : e < 2) (hb : b < C) (hab : a ≤ b) : CTr E (svK K) (svS K S (r, q)) (pRs e (b + 1 - a) a (r, q)) g mi ml mr (callT (d + 5) mX4_reset [.ref 2, .int (nI e), .int (nI a), .int (nI b)] (g, mi, ml, mr)) (some (.int (nI (nRs e (b + 1 - a) a (r, q))))) := by
  obtain ⟨k1, k2, k3, k4, k5⟩ := h.k2
  obtain ⟨pm', y1, y2, Lm, g', mi', ml', mr', e1, e2, e3, e4⟩ := c_save (d := d) (ml := ml) h hJ
  have c1 : nI a ≤ nI b := nI_le hab (by omega)
  have e5 := (rs_k (d := d) (a := a) (u := .null) he (show b < 12 by omega) (b + 1 - a) a 0 r q pm' y1 y2 Lm g' mi' ml' mr' .null (by omega) e2 hJ.fs ((hJ.rm hB).mono rfl (by omega))).trx (g2 := g') (m2 := mi') (l2 := ml') (r2' := mr') e3
  rw [Nat.zero_add] at e5
  rw [eX4_reset]
  simp only [wX4_reset_0, wX4_reset_1, wX4_reset_2, wX4_reset_5, wX4_reset_6, wX4_reset_7, wX4_reset_10, wX4_reset_11, wX4_reset_12, wX4_reset_15, wX4_reset_16, wX4_reset_17, wX4_reset_20, wX4_reset_23, wX4_reset_30, wX4_reset_31, wX4_reset_34, wX4_reset_35i, wX4_reset_35r, wX4_reset_35n, wX4_reset_37, wX4_reset_38i, wX4_reset_38r, wX4_reset_38n, wX4_reset_42, wX4_reset_43, wX4_reset_46, wX4_reset_47, wX4_reset_50, wX4_reset_51, wX4_reset_53, wX4_reset_56i, wX4_reset_56r, wX4_reset_56n, wX4_reset_58, wX4_reset_60, wX4_reset_63, wX4_reset_66i, wX4_reset_66r, wX4_reset_66n, wX4_reset_69, wX4_reset_70, wX4_reset_73, wX4_reset_75, wX4_reset_78i, wX4_reset_78r, wX4_reset_78n, wX4_reset_81, wX4_reset_84, wX4_reset_86, k1, cs_0, cs_i, cs_r, c_reqX1 he, isC_c h h0 hC1 hC (show a < C by omega), isC_c h h0 hC1 hC hb, aR_v, c1, if_true, e1]
  exact e5
theorem k_reset0 (h : TG (E + 1) K S (r, q) pm x1 x2 Ln g mi mr) (h0 : r 0 = nI C) (hC1 : 1 ≤ C) (hC : C ≤ 12) (hx : ¬ ((isX x ∧ isC r y) ∧ isC r z ∧ y ≤ z)) : CTx E K S (r, q) g mi ml mr (callT (d + 8) mX4_reset [.ref 2, .int x, .int y, .int z] (g, mi, ml, mr)) "java/lang/IndexOutOfBoundsException" := by
  obtain ⟨⟨h1, h2⟩, -⟩ := h.thr
  have k1 := h.k2.1
  have hH : mH mX4_reset = [] := rfl
  rw [eX4_reset]
  by_cases p1 : isX x
  · obtain ⟨e, he, rfl⟩ := isX_e p1
    by_cases p2 : isC r y
    · obtain ⟨a, ha, rfl⟩ := isC_e h0 hC1 hC p2
      by_cases p3 : isC r z
      · obtain ⟨b, hb, rfl⟩ := isC_e h0 hC1 hC p3
        have p4 : ¬ nI a ≤ nI b := fun h9 => hx ⟨⟨p1, p2⟩, p3, h9⟩
        simp only [wX4_reset_0, wX4_reset_1, wX4_reset_2, wX4_reset_5, wX4_reset_6, wX4_reset_7, wX4_reset_10, wX4_reset_11, wX4_reset_12, wX4_reset_15, wX4_reset_16, wX4_reset_17, wX4_reset_20, wX4_reset_23, wX4_reset_30, wX4_reset_31, wX4_reset_34, wX4_reset_35i, wX4_reset_35r, wX4_reset_35n, wX4_reset_37, wX4_reset_38i, wX4_reset_38r, wX4_reset_38n, wX4_reset_42, wX4_reset_43, wX4_reset_46, wX4_reset_47, wX4_reset_50, wX4_reset_51, wX4_reset_53, wX4_reset_56i, wX4_reset_56r, wX4_reset_56n, wX4_reset_58, wX4_reset_60, wX4_reset_63, wX4_reset_66i, wX4_reset_66r, wX4_reset_66n, wX4_reset_69, wX4_reset_70, wX4_reset_73, wX4_reset_75, wX4_reset_78i, wX4_reset_78r, wX4_reset_78n, wX4_reset_81, wX4_reset_84, wX4_reset_86, k1, cs_0, cs_i, cs_r, c_reqX1 he, isC_c h h0 hC1 hC ha, isC_c h h0 hC1 hC hb, aR_v, p4, if_false, h1, h2]
        exact h.ctx
      · simp only [wX4_reset_0, wX4_reset_1, wX4_reset_2, wX4_reset_5, wX4_reset_6, wX4_reset_7, wX4_reset_10, wX4_reset_11, wX4_reset_12, wX4_reset_15, wX4_reset_16, wX4_reset_17, wX4_reset_20, wX4_reset_23, wX4_reset_30, wX4_reset_31, wX4_reset_34, wX4_reset_35i, wX4_reset_35r, wX4_reset_35n, wX4_reset_37, wX4_reset_38i, wX4_reset_38r, wX4_reset_38n, wX4_reset_42, wX4_reset_43, wX4_reset_46, wX4_reset_47, wX4_reset_50, wX4_reset_51, wX4_reset_53, wX4_reset_56i, wX4_reset_56r, wX4_reset_56n, wX4_reset_58, wX4_reset_60, wX4_reset_63, wX4_reset_66i, wX4_reset_66r, wX4_reset_66n, wX4_reset_69, wX4_reset_70, wX4_reset_73, wX4_reset_75, wX4_reset_78i, wX4_reset_78r, wX4_reset_78n, wX4_reset_81, wX4_reset_84, wX4_reset_86, k1, cs_0, cs_i, cs_r, c_reqX1 he, isC_c h h0 hC1 hC ha, aR_v, isC_x h h0 hC1 hC p3 h1 h2, aR_x hH]
        exact h.ctx
    · simp only [wX4_reset_0, wX4_reset_1, wX4_reset_2, wX4_reset_5, wX4_reset_6, wX4_reset_7, wX4_reset_10, wX4_reset_11, wX4_reset_12, wX4_reset_15, wX4_reset_16, wX4_reset_17, wX4_reset_20, wX4_reset_23, wX4_reset_30, wX4_reset_31, wX4_reset_34, wX4_reset_35i, wX4_reset_35r, wX4_reset_35n, wX4_reset_37, wX4_reset_38i, wX4_reset_38r, wX4_reset_38n, wX4_reset_42, wX4_reset_43, wX4_reset_46, wX4_reset_47, wX4_reset_50, wX4_reset_51, wX4_reset_53, wX4_reset_56i, wX4_reset_56r, wX4_reset_56n, wX4_reset_58, wX4_reset_60, wX4_reset_63, wX4_reset_66i, wX4_reset_66r, wX4_reset_66n, wX4_reset_69, wX4_reset_70, wX4_reset_73, wX4_reset_75, wX4_reset_78i, wX4_reset_78r, wX4_reset_78n, wX4_reset_81, wX4_reset_84, wX4_reset_86, k1, cs_0, cs_i, cs_r, c_reqX1 he, aR_v, isC_x h h0 hC1 hC p2 h1 h2, aR_x hH]
      exact h.ctx
  · simp only [wX4_reset_0, wX4_reset_1, wX4_reset_2, wX4_reset_5, wX4_reset_6, wX4_reset_7, wX4_reset_10, wX4_reset_11, wX4_reset_12, wX4_reset_15, wX4_reset_16, wX4_reset_17, wX4_reset_20, wX4_reset_23, wX4_reset_30, wX4_reset_31, wX4_reset_34, wX4_reset_35i, wX4_reset_35r, wX4_reset_35n, wX4_reset_37, wX4_reset_38i, wX4_reset_38r, wX4_reset_38n, wX4_reset_42, wX4_reset_43, wX4_reset_46, wX4_reset_47, wX4_reset_50, wX4_reset_51, wX4_reset_53, wX4_reset_56i, wX4_reset_56r, wX4_reset_56n, wX4_reset_58, wX4_reset_60, wX4_reset_63, wX4_reset_66i, wX4_reset_66r, wX4_reset_66n, wX4_reset_69, wX4_reset_70, wX4_reset_73, wX4_reset_75, wX4_reset_78i, wX4_reset_78r, wX4_reset_78n, wX4_reset_81, wX4_reset_84, wX4_reset_86, k1, cs_0, cs_i, cs_r, c_reqX0 p1 h1 h2, aR_x hH]
    exact h.ctx
/-- tick -/
theorem tk_k (hX : ∀ e c, X e c ≤ 1) (hB : B ≤ 12012) (hn : n ≤ 500) : ∀ j k cnt t r q pm x1 x2 Ln g mi ml mr, k + j = n → TG E K S (r, q) pm x1 x2 Ln g mi mr → JI X B N t D r q → t + j ≤ 300000 → CTr E K S (pTkI j (r, q)) g mi ml mr (R (d + 8) mX4_tick 30 [.ref 2, .int (nI n), .int (nI cnt), .int (nI k)] [] g mi ml mr) (some (.int (nI (cnt + nTkI j (r, q))))) := by
  intro j
  induction j with
  | zero =>
    intro k cnt t r q pm x1 x2 Ln g mi ml mr hk h hJ ht
    have : k = n := by omega
    subst this
    rw [wX4_tick_30]
    simp only [wX4_tick_0, wX4_tick_1, wX4_tick_2, wX4_tick_5, wX4_tick_6, wX4_tick_9, wX4_tick_12, wX4_tick_15, wX4_tick_22, wX4_tick_23, wX4_tick_26, wX4_tick_27i, wX4_tick_27r, wX4_tick_27n, wX4_tick_28, wX4_tick_29i, wX4_tick_29r, wX4_tick_29n, wX4_tick_31, wX4_tick_32, wX4_tick_35, wX4_tick_36, wX4_tick_39, wX4_tick_42, wX4_tick_43, wX4_tick_46, wX4_tick_47, wX4_tick_48, wX4_tick_51, wX4_tick_52, wX4_tick_53, wX4_tick_56, wX4_tick_59, wX4_tick_60i, wX4_tick_60r, wX4_tick_60n, wX4_tick_61, wX4_tick_62, wX4_tick_65, wX4_tick_68i, wX4_tick_68r, wX4_tick_68n, wX4_tick_71, wX4_tick_74, wX4_tick_75, Int32.le_refl, if_true]
    exact h.ctr
  | succ j ih =>
    intro k cnt t r q pm x1 x2 Ln g mi ml mr hk h hJ ht
    have c1 : ¬ nI n ≤ nI k := nI_ge (by omega) (by omega)
    obtain ⟨k1, k2, k3, k4, k5⟩ := h.k2
    have hF := hJ.fs
    have hJ2 := hJ.tk hX hB (show t < 300000 by omega)
    obtain ⟨hh, hb, hJG⟩ := id hJ
    have hA := hJG.tkA (show t < 300000 by omega)
    have v0 : mi (Ad (pm 3) + 4) 0 = r 2 := h.cs.lv (j := 2) (by decide) (by decide) rfl rfl
    have hx := h.cs.lo (j := 2) (a := Ad (pm 3) + 4) (f := 0) (z := r 2 + nI 1) (by decide) (by decide) (fun _ => rfl) rfl rfl
    rw [show nC (r, q).1 = N from hJ.nC] at hx
    have hx' : CS (Ad (pm 3)) 0 N (nM r) (x1 (pm 3)) (x2 (pm 3)) (Ln (pm 3)) (inc r 2) q g (u2 mi (Ad (pm 3) + 4) 0 (r 2 + nI 1)) mr := hx
    obtain ⟨w1, w2⟩ := h.wr (ml := ml) hx' (by omega) (by omega) (by show u1 r 2 (r 2 + nI 1) 5 = nI N; rw [u1_n (by decide)]; exact hF.2.2.2.2.1) hF.2.2.2.1
    have hd1 := c_due (d := d) (ml := ml) hx' w1.rm hX Tt_0 hB hA
    have hJD := JG.dues hX Tt_0 hB _ _ _ hA
    obtain ⟨z1, z2', Lz, g3, i3, l3, r3', y1, y2, y3⟩ := w1.now (P' := pDue (pJ r q) (inc r 2, q)) hd1 hJD.fs.2.2.2.2.1 hJD.fs.2.2.2.1
    have hcs3 := y2.cs
    rw [nC_of hJD.fs.2.2.2.2.1 hJD.fs.2.2.2.1] at hcs3
    obtain ⟨m1, m2, m3, m4, m5⟩ := y2.k2
    obtain ⟨z3, z4, Lz2, g4, i4, l4, r4', y4, y5, y6⟩ := y2.now (P' := pTk (r, q)) (c_down (d := d) (ml := l3) hcs3 y2.rm hB (by omega) hJD) hJ2.fs.2.2.2.2.1 hJ2.fs.2.2.2.1
    have e1 := (ih (k + 1) (cnt + pJ r q) (t + 1) (pTk (r, q)).1 (pTk (r, q)).2 pm z3 z4 Lz2 g4 i4 l4 r4' (by omega) y5 hJ2 (by omega)).trx (g2 := g4) (m2 := i4) (l2 := l4) (r2' := r4') ((w2.tr y3.ox).tr y6.ox)
    rw [show cnt + pJ r q + nTkI j ((pTk (r, q)).1, (pTk (r, q)).2) = cnt + nTkI (j + 1) (r, q) by show cnt + pJ r q + nTkI j (pTk (r, q)) = cnt + (pJ r q + nTkI j (pTk (r, q))); omega] at e1
    rw [wX4_tick_30]
    simp only [wX4_tick_0, wX4_tick_1, wX4_tick_2, wX4_tick_5, wX4_tick_6, wX4_tick_9, wX4_tick_12, wX4_tick_15, wX4_tick_22, wX4_tick_23, wX4_tick_26, wX4_tick_27i, wX4_tick_27r, wX4_tick_27n, wX4_tick_28, wX4_tick_29i, wX4_tick_29r, wX4_tick_29n, wX4_tick_31, wX4_tick_32, wX4_tick_35, wX4_tick_36, wX4_tick_39, wX4_tick_42, wX4_tick_43, wX4_tick_46, wX4_tick_47, wX4_tick_48, wX4_tick_51, wX4_tick_52, wX4_tick_53, wX4_tick_56, wX4_tick_59, wX4_tick_60i, wX4_tick_60r, wX4_tick_60n, wX4_tick_61, wX4_tick_62, wX4_tick_65, wX4_tick_68i, wX4_tick_68r, wX4_tick_68n, wX4_tick_71, wX4_tick_74, wX4_tick_75, c1, if_false, k1, k2, k3, k4, k5, v0, cs_0, cs_i, cs_r, y1, aR_1, aR_v, nI_add, m1, m2, m3, y4]
    exact e1
theorem k_tick1 (h : TG E K S (r, q) pm x1 x2 Ln g mi mr) (hJ : JI X B N t D r q) (hX : ∀ e c, X e c ≤ 1) (hB : B ≤ 12012) (h1 : 1 ≤ n) (hn : n ≤ 500) (ht : t + n ≤ 300000) : CTr E (svK K) (svS K S (r, q)) (pTkI n (r, q)) g mi ml mr (callT (d + 9) mX4_tick [.ref 2, .int (nI n)] (g, mi, ml, mr)) (some (.int (nI (nTkI n (r, q))))) := by
  obtain ⟨k1, k2, k3, k4, k5⟩ := h.k2
  obtain ⟨pm', y1, y2, Lm, g', mi', ml', mr', e1, e2, e3, e4⟩ := c_save (d := d + 4) (ml := ml) h hJ
  have c1 : ¬ nI n < nI 1 := nI_nlt h1 (by omega)
  have c2 : nI n ≤ nI 500 := nI_le hn (by decide)
  have e5 := (tk_k (d := d) hX hB hn n 0 0 t r q pm' y1 y2 Lm g' mi' ml' mr' (by omega) e2 hJ ht).trx (g2 := g') (m2 := mi') (l2 := ml') (r2' := mr') e3
  rw [Nat.zero_add] at e5
  rw [eX4_tick]
  simp only [wX4_tick_0, wX4_tick_1, wX4_tick_2, wX4_tick_5, wX4_tick_6, wX4_tick_9, wX4_tick_12, wX4_tick_15, wX4_tick_22, wX4_tick_23, wX4_tick_26, wX4_tick_27i, wX4_tick_27r, wX4_tick_27n, wX4_tick_28, wX4_tick_29i, wX4_tick_29r, wX4_tick_29n, wX4_tick_31, wX4_tick_32, wX4_tick_35, wX4_tick_36, wX4_tick_39, wX4_tick_42, wX4_tick_43, wX4_tick_46, wX4_tick_47, wX4_tick_48, wX4_tick_51, wX4_tick_52, wX4_tick_53, wX4_tick_56, wX4_tick_59, wX4_tick_60i, wX4_tick_60r, wX4_tick_60n, wX4_tick_61, wX4_tick_62, wX4_tick_65, wX4_tick_68i, wX4_tick_68r, wX4_tick_68n, wX4_tick_71, wX4_tick_74, wX4_tick_75, c1, c2, if_false, if_true, k1, cs_0, cs_i, cs_r, e1, aR_v]
  exact e5
theorem k_tick0 (h : TG (E + 1) K S (r, q) pm x1 x2 Ln g mi mr) (hz : ¬ (nI 1 ≤ z ∧ z ≤ nI 500)) : CTx E K S (r, q) g mi ml mr (callT (d + 7) mX4_tick [.ref 2, .int z] (g, mi, ml, mr)) "java/lang/IllegalArgumentException" := by
  obtain ⟨⟨h1, h2⟩, -⟩ := h.thr
  rw [eX4_tick]
  by_cases p : z < nI 1
  · simp only [wX4_tick_0, wX4_tick_1, wX4_tick_2, wX4_tick_5, wX4_tick_6, wX4_tick_9, wX4_tick_12, wX4_tick_15, wX4_tick_22, wX4_tick_23, wX4_tick_26, wX4_tick_27i, wX4_tick_27r, wX4_tick_27n, wX4_tick_28, wX4_tick_29i, wX4_tick_29r, wX4_tick_29n, wX4_tick_31, wX4_tick_32, wX4_tick_35, wX4_tick_36, wX4_tick_39, wX4_tick_42, wX4_tick_43, wX4_tick_46, wX4_tick_47, wX4_tick_48, wX4_tick_51, wX4_tick_52, wX4_tick_53, wX4_tick_56, wX4_tick_59, wX4_tick_60i, wX4_tick_60r, wX4_tick_60n, wX4_tick_61, wX4_tick_62, wX4_tick_65, wX4_tick_68i, wX4_tick_68r, wX4_tick_68n, wX4_tick_71, wX4_tick_74, wX4_tick_75, p, if_true, h1, h2, cs_0]
    exact h.ctx
  · have p2 : ¬ z ≤ nI 500 := fun h9 => hz ⟨Int32.not_lt.mp p, h9⟩
    simp only [wX4_tick_0, wX4_tick_1, wX4_tick_2, wX4_tick_5, wX4_tick_6, wX4_tick_9, wX4_tick_12, wX4_tick_15, wX4_tick_22, wX4_tick_23, wX4_tick_26, wX4_tick_27i, wX4_tick_27r, wX4_tick_27n, wX4_tick_28, wX4_tick_29i, wX4_tick_29r, wX4_tick_29n, wX4_tick_31, wX4_tick_32, wX4_tick_35, wX4_tick_36, wX4_tick_39, wX4_tick_42, wX4_tick_43, wX4_tick_46, wX4_tick_47, wX4_tick_48, wX4_tick_51, wX4_tick_52, wX4_tick_53, wX4_tick_56, wX4_tick_59, wX4_tick_60i, wX4_tick_60r, wX4_tick_60n, wX4_tick_61, wX4_tick_62, wX4_tick_65, wX4_tick_68i, wX4_tick_68r, wX4_tick_68n, wX4_tick_71, wX4_tick_74, wX4_tick_75, p, p2, if_false, h1, h2, cs_0]
    exact h.ctx
end CPB4
