/-! the reference: its public calls -/
/-- what a call of the reference leaves -/
def RC (g : Gh) (mr : MR) (mi0 : MI) (ml0 : ML) (o : Option Res) (code : Nat) (ret : Value) (K : Nat) (S : Nat → PS) (p : PS) : Prop := ∃ mi ml, o = some (.inl (some ret), g, mi, ml, mr) ∧ mi 292 5 = nI code ∧ MS K S p mi ml ∧ FM mi0 ml0 mi ml
def noneS (f : Nat → Int32) : Nat → (Nat → Int32)
  | 0 => f
  | k + 1 => u1 (noneS f k) (24 + 9 * k + 1) (-1)
def pBeg (r : Nat → Int32) (z : Int32) : Nat → Int32 := noneS (u1 (u1 (cp r 0 480 (fun _ => nI 0)) 0 z) 1 (r 1)) 24
def isX (x : Int32) : Prop := nI 0 ≤ x ∧ x ≤ nI 1
def isC (r : Nat → Int32) (y : Int32) : Prop := nI 0 ≤ y ∧ y ≤ r 0 - nI 1
def pDo (r : Nat → Int32) (q : Nat → Int64) (e c k s : Nat) : PS := (sE (sE (pSend r q e c k 0).1 e c 0 (nI s)) e c 2 (nI 0), (pSend r q e c k 0).2)
def pBk (r : Nat → Int32) (q : Nat → Int64) (e c k s : Nat) : PS := (sE (sE (pSend r q e c k 0).1 e c 8 (nI 10)) e c 4 (nI s), (pSend r q e c k 0).2)
def pRs (e : Nat) : Nat → Nat → PS → PS
  | 0, _, p => p
  | j + 1, c, p => pRs e j (c + 1) (pRst p.1 p.2 e c)
def nRs (e : Nat) : Nat → Nat → PS → Nat
  | 0, _, _ => 0
  | j + 1, c, p => (if p.1 (eI e c 0) = nI 0 then 1 else 0) + nRs e j (c + 1) (pRst p.1 p.2 e c)
def pTkI : Nat → PS → PS
  | 0, p => p
  | j + 1, p => pTkI j (pTk p)
def nTkI : Nat → PS → Nat
  | 0, _ => 0
  | j + 1, p => pJ p.1 p.2 + nTkI j (pTk p)
def pNew (r : Nat → Int32) (n e k : Nat) : Nat → Int32 := sC (sC (sC (sC (sC (inc r 5) n 0 (nI e)) n 2 (nI 0)) n 3 (nI 0)) n 4 (-1)) n 5 (nI k)
section PUB1
variable {X : Nat → Nat → Nat} {h hb : Nat → Nat} {N t D e c w k v n j s a B d C K L from_ : Nat} {r : Nat → Int32} {q : Nat → Int64} {z x y : Int32} {g : Gh} {mi mi' mi0 : MI} {ml ml' ml0 : ML} {mr : MR} {S : Nat → PS} {p : PS} {ret : Value}
theorem rc (e2 : mi' 292 5 = nI s) (e3 : ∀ r' q', MS K S (r', q') (r2 mi' 293 r') (r2 ml' 294 q')) (e4 : ∀ r' q', FM mi0 ml0 (r2 mi' 293 r') (r2 ml' 294 q')) : RC g mr mi0 ml0 (some (.inl (some ret), g, r2 mi' 293 r, r2 ml' 294 q, mr)) s ret K S (r, q) := ⟨_, _, rfl, by rw [r2_n (by decide)]; exact e2, e3 r q, e4 r q⟩
theorem MS.any (hM : MS K S (r, q) mi ml) : ∀ r' q', MS K S (r', q') (r2 mi 293 r') (r2 ml 294 q') := fun r' q' => by
  obtain ⟨a1, a2, ⟨a3, a4⟩, a5⟩ := hM
  refine ⟨r2_s, r2_s, ⟨?_, a4⟩, ?_⟩
  · rw [r2_n (by decide)]; exact a3
  · rw [r2_n (by decide), r2_n (by decide)]; exact a5
theorem FM.any (hF : FM mi0 ml0 mi ml) : ∀ r' q', FM mi0 ml0 (r2 mi 293 r') (r2 ml 294 q') := fun r' q' => ⟨fun a ha => by rw [r2_n (by omega)]; exact hF.1 a ha, fun a ha => by rw [r2_n (by omega)]; exact hF.2 a ha⟩
theorem JI.rm (hJ : JI X B N t D r q) (hB : B ≤ 12012) : Rm r 32 := by
  obtain ⟨h, hb, hJ⟩ := hJ
  exact hJ.cap (std_cap hB)
theorem JI.wf (hJ : JI X B N t D r q) : WF r := by
  obtain ⟨h, hb, hJ⟩ := hJ
  exact hJ.wf
theorem m_rc0 (hg : MG g mr) (hM : MS K S (r, q) (r2 mi 293 r) (r2 ml 294 q)) (hR : Rm r 32) : ∃ mi' ml', callT (d + 2) mX5_refusesChange [.ref 292, .int (nI 0)] (g, r2 mi 293 r, r2 ml 294 q, mr) = some (.inl (some (.int (nI 0))), g, r2 mi' 293 r, r2 ml' 294 q, mr) ∧ mi' 292 5 = nI 0 ∧ (∀ r' q', MS (svK K) (svS K S (r, q)) (r', q') (r2 mi' 293 r') (r2 ml' 294 q')) ∧ ∀ r' q', FM (r2 mi 293 r) (r2 ml 294 q) (r2 mi' 293 r') (r2 ml' 294 q') := by
  obtain ⟨n, hn, hn2⟩ := hR
  obtain ⟨mi', ml', e1, e2, e3, e4⟩ := m_rfc (d := d) hg hM hn (by omega)
  have f1 : mi' = r2 mi' 293 r := by have := e3.1; rw [show r = mi' 293 from this.symm]; exact r2_self.symm
  have f2 : ml' = r2 ml' 294 q := by have := e3.2.1; rw [show q = ml' 294 from this.symm]; exact r2_self.symm
  exact ⟨mi', ml', by rw [e1]; exact congrArg some (congrArg _ (congrArg _ (by rw [← f1, ← f2]))), e2, e3.any, e4.any⟩
theorem m_rcx (hg : MG g mr) (hM : MS K S (r, q) (r2 mi 293 r) (r2 ml 294 q)) (hk : ¬ nI k = nI 0) : ∃ mi', callT (d + 2) mX5_refusesChange [.ref 292, .int (nI k)] (g, r2 mi 293 r, r2 ml 294 q, mr) = some (.inl (some (.int (nI 1))), g, r2 mi' 293 r, r2 ml 294 q, mr) ∧ mi' 292 5 = nI k ∧ (∀ r' q', MS K S (r', q') (r2 mi' 293 r') (r2 ml 294 q')) ∧ ∀ r' q', FM (r2 mi 293 r) (r2 ml 294 q) (r2 mi' 293 r') (r2 ml 294 q') := by
  obtain ⟨mi', e1, e2, e3, e4⟩ := m_rfx (d := d) hg hM hk
  have f1 : mi' = r2 mi' 293 r := by have := e3.1; rw [show r = mi' 293 from this.symm]; exact r2_self.symm
  refine ⟨mi', by rw [e1]; exact congrArg some (congrArg _ (congrArg _ (by rw [← f1]))), e2, fun r' q' => ?_, fun r' q' => ?_⟩
  · have := e3.any r' q'; rw [r2_r2] at this; exact this
  · have := e4.any r' q'; rw [r2_r2] at this; exact this
theorem n2_0 : (nI 2 = nI 0) = False := by decide
theorem nm1 : (nI 1 = nI 0) = False := by decide
/-- setDelay -/
theorem m_setDelay1 (hg : MG g mr) (hM : MS K S (r, q) (r2 mi 293 r) (r2 ml 294 q)) (hR : Rm r 32) (hz : nI 1 ≤ z ∧ z ≤ nI 20) : RC g mr (r2 mi 293 r) (r2 ml 294 q) (callT (d + 3) mX5_setDelay [.ref 292, .int z] (g, r2 mi 293 r, r2 ml 294 q, mr)) 0 (.int (r 1)) (svK K) (svS K S (r, q)) (u1 r 1 z, q) := by
  have h1 := hg.1
  obtain ⟨mi', ml', e1, e2, e3, e4⟩ := m_rc0 (d := d) hg hM hR
  rw [eX5_setDelay]
  simp only [wX5_setDelay_0, wX5_setDelay_1, wX5_setDelay_2, wX5_setDelay_3, wX5_setDelay_5, wX5_setDelay_8, wX5_setDelay_11, wX5_setDelay_12, wX5_setDelay_15, wX5_setDelay_16, wX5_setDelay_19, wX5_setDelay_22, wX5_setDelay_23, wX5_setDelay_26, wX5_setDelay_27, wX5_setDelay_28, wX5_setDelay_29, wX5_setDelay_32, h1, cs_0, cs_i, cs_r, m_in, aR_1, bI_t hz, n1_0, if_false, e1, if_true, m_becomes hg (show 1 < 480 by decide), r2_s, r2_r2]
  exact rc e2 e3 e4
theorem m_setDelay0 (hg : MG g mr) (hM : MS K S (r, q) (r2 mi 293 r) (r2 ml 294 q)) (hz : ¬ (nI 1 ≤ z ∧ z ≤ nI 20)) : RC g mr (r2 mi 293 r) (r2 ml 294 q) (callT (d + 3) mX5_setDelay [.ref 292, .int z] (g, r2 mi 293 r, r2 ml 294 q, mr)) 1 (.int (nI 0)) K S (r, q) := by
  have h1 := hg.1
  obtain ⟨mi', e1, e2, e3, e4⟩ := m_rcx (d := d) (k := 1) hg hM (by decide)
  rw [eX5_setDelay]
  simp only [wX5_setDelay_0, wX5_setDelay_1, wX5_setDelay_2, wX5_setDelay_3, wX5_setDelay_5, wX5_setDelay_8, wX5_setDelay_11, wX5_setDelay_12, wX5_setDelay_15, wX5_setDelay_16, wX5_setDelay_19, wX5_setDelay_22, wX5_setDelay_23, wX5_setDelay_26, wX5_setDelay_27, wX5_setDelay_28, wX5_setDelay_29, wX5_setDelay_32, h1, cs_0, cs_i, cs_r, m_in, aR_1, bI_f hz, n1_0, if_false, e1, if_true]
  exact rc e2 e3 e4
/-- setCircuits -/
theorem bg1 (hg : MG g mr) : ∀ j k, k + j = 480 → R d mX5_begins 9 [.ref 292, .int z, .int x, .int (nI k)] [] g (r2 mi 293 (cp r 0 k (fun _ => nI 0))) ml mr = R d mX5_begins 29 [.ref 292, .int z, .int x, .int (nI 480)] [] g (r2 mi 293 (cp r 0 480 (fun _ => nI 0))) ml mr := by
  obtain ⟨h1, h2, h3, -, -, -, -, -, -, h4, -⟩ := hg
  intro j
  induction j with
  | zero =>
    intro k hk
    have : k = 480 := by omega
    subst this
    rw [wX5_begins_9]
    simp only [wX5_begins_0, wX5_begins_1, wX5_begins_4, wX5_begins_5, wX5_begins_6i, wX5_begins_6r, wX5_begins_6n, wX5_begins_7, wX5_begins_8i, wX5_begins_8r, wX5_begins_8n, wX5_begins_10, wX5_begins_13, wX5_begins_16, wX5_begins_17, wX5_begins_20, wX5_begins_21, wX5_begins_22, wX5_begins_23i, wX5_begins_23r, wX5_begins_23n, wX5_begins_26, wX5_begins_30, wX5_begins_33, wX5_begins_34, wX5_begins_35, wX5_begins_36, wX5_begins_37, wX5_begins_40, wX5_begins_41, wX5_begins_42, wX5_begins_43, wX5_begins_44i, wX5_begins_44r, wX5_begins_44n, wX5_begins_46, wX5_begins_48, wX5_begins_51, wX5_begins_52, wX5_begins_55, wX5_begins_57, wX5_begins_59, wX5_begins_60, wX5_begins_61, wX5_begins_62, wX5_begins_63, wX5_begins_64, wX5_begins_65, wX5_begins_66i, wX5_begins_66r, wX5_begins_66n, wX5_begins_69, wX5_begins_72, Int32.le_refl, if_true]
  | succ j ih =>
    intro k hk
    have c1 : ¬ nI 480 ≤ nI k := by rw [nI_leI (by omega) (by omega)]; omega
    have b3 : k < 480 := by omega
    have b4 : k < 2147483648 := by omega
    have st : u1 (cp r 0 k (fun _ => nI 0)) k (nI 0) = cp r 0 (k + 1) (fun _ => nI 0) := by have := cp_step (P := r) (a := 0) (n := k) (F := fun _ => nI 0); rw [Nat.zero_add] at this; exact this
    rw [wX5_begins_9]
    simp only [wX5_begins_0, wX5_begins_1, wX5_begins_4, wX5_begins_5, wX5_begins_6i, wX5_begins_6r, wX5_begins_6n, wX5_begins_7, wX5_begins_8i, wX5_begins_8r, wX5_begins_8n, wX5_begins_10, wX5_begins_13, wX5_begins_16, wX5_begins_17, wX5_begins_20, wX5_begins_21, wX5_begins_22, wX5_begins_23i, wX5_begins_23r, wX5_begins_23n, wX5_begins_26, wX5_begins_30, wX5_begins_33, wX5_begins_34, wX5_begins_35, wX5_begins_36, wX5_begins_37, wX5_begins_40, wX5_begins_41, wX5_begins_42, wX5_begins_43, wX5_begins_44i, wX5_begins_44r, wX5_begins_44n, wX5_begins_46, wX5_begins_48, wX5_begins_51, wX5_begins_52, wX5_begins_55, wX5_begins_57, wX5_begins_59, wX5_begins_60, wX5_begins_61, wX5_begins_62, wX5_begins_63, wX5_begins_64, wX5_begins_65, wX5_begins_66i, wX5_begins_66r, wX5_begins_66n, wX5_begins_69, wX5_begins_72, c1, if_false, h1, h2, h3, h4, nI_add, b3, b4, r2_s, r2_r2, u2_r2, st]
    exact ih (k + 1) (by omega)
theorem bg2 (hg : MG g mr) : ∀ j k, k + j = 24 → R d mX5_begins 45 [.ref 292, .int z, .int x, .int (nI k)] [] g (r2 mi 293 (noneS r k)) ml mr = some (.inl none, g, r2 mi 293 (noneS r 24), ml, mr) := by
  obtain ⟨h1, h2, h3, -, -, -, -, -, -, h4, -⟩ := hg
  intro j
  induction j with
  | zero =>
    intro k hk
    have : k = 24 := by omega
    subst this
    rw [wX5_begins_45]
    simp only [wX5_begins_0, wX5_begins_1, wX5_begins_4, wX5_begins_5, wX5_begins_6i, wX5_begins_6r, wX5_begins_6n, wX5_begins_7, wX5_begins_8i, wX5_begins_8r, wX5_begins_8n, wX5_begins_10, wX5_begins_13, wX5_begins_16, wX5_begins_17, wX5_begins_20, wX5_begins_21, wX5_begins_22, wX5_begins_23i, wX5_begins_23r, wX5_begins_23n, wX5_begins_26, wX5_begins_29, wX5_begins_30, wX5_begins_33, wX5_begins_34, wX5_begins_35, wX5_begins_36, wX5_begins_37, wX5_begins_40, wX5_begins_41, wX5_begins_42, wX5_begins_43, wX5_begins_44i, wX5_begins_44r, wX5_begins_44n, wX5_begins_46, wX5_begins_48, wX5_begins_51, wX5_begins_52, wX5_begins_55, wX5_begins_57, wX5_begins_59, wX5_begins_60, wX5_begins_61, wX5_begins_62, wX5_begins_63, wX5_begins_64, wX5_begins_65, wX5_begins_66i, wX5_begins_66r, wX5_begins_66n, wX5_begins_69, wX5_begins_72, Int32.le_refl, if_true]
  | succ j ih =>
    intro k hk
    have c1 : ¬ nI 24 ≤ nI k := by rw [nI_leI (by omega) (by omega)]; omega
    have b3 : 24 + 9 * k + 1 < 480 := by omega
    have b4 : 24 + 9 * k + 1 < 2147483648 := by omega
    have st : u1 (noneS r k) (24 + 9 * k + 1) (-1) = noneS r (k + 1) := rfl
    rw [wX5_begins_45]
    simp only [wX5_begins_0, wX5_begins_1, wX5_begins_4, wX5_begins_5, wX5_begins_6i, wX5_begins_6r, wX5_begins_6n, wX5_begins_7, wX5_begins_8i, wX5_begins_8r, wX5_begins_8n, wX5_begins_10, wX5_begins_13, wX5_begins_16, wX5_begins_17, wX5_begins_20, wX5_begins_21, wX5_begins_22, wX5_begins_23i, wX5_begins_23r, wX5_begins_23n, wX5_begins_26, wX5_begins_29, wX5_begins_30, wX5_begins_33, wX5_begins_34, wX5_begins_35, wX5_begins_36, wX5_begins_37, wX5_begins_40, wX5_begins_41, wX5_begins_42, wX5_begins_43, wX5_begins_44i, wX5_begins_44r, wX5_begins_44n, wX5_begins_46, wX5_begins_48, wX5_begins_51, wX5_begins_52, wX5_begins_55, wX5_begins_57, wX5_begins_59, wX5_begins_60, wX5_begins_61, wX5_begins_62, wX5_begins_63, wX5_begins_64, wX5_begins_65, wX5_begins_66i, wX5_begins_66r, wX5_begins_66n, wX5_begins_69, wX5_begins_72, c1, if_false, h1, h2, h3, h4, pk_mul, nI_add, b3, b4, r2_s, r2_r2, u2_r2, st]
    exact ih (k + 1) (by omega)
theorem m_begins (hg : MG g mr) : callT (d + 1) mX5_begins [.ref 292, .int z] (g, r2 mi 293 r, ml, mr) = some (.inl none, g, r2 mi 293 (pBeg r z), ml, mr) := by
  obtain ⟨h1, h2, h3, -, -, -, -, -, -, h4, -⟩ := id hg
  have e1 := bg1 (d := d) (mi := mi) (ml := ml) (r := r) (z := z) (x := r 1) hg 480 0 (by omega)
  rw [cp_0] at e1
  rw [eX5_begins]
  simp only [wX5_begins_0, wX5_begins_1, wX5_begins_4, wX5_begins_5, wX5_begins_6i, wX5_begins_6r, wX5_begins_6n, wX5_begins_7, wX5_begins_8i, wX5_begins_8r, wX5_begins_8n, wX5_begins_10, wX5_begins_13, wX5_begins_16, wX5_begins_17, wX5_begins_20, wX5_begins_21, wX5_begins_22, wX5_begins_23i, wX5_begins_23r, wX5_begins_23n, wX5_begins_26, wX5_begins_29, wX5_begins_30, wX5_begins_33, wX5_begins_34, wX5_begins_35, wX5_begins_36, wX5_begins_37, wX5_begins_40, wX5_begins_41, wX5_begins_42, wX5_begins_43, wX5_begins_44i, wX5_begins_44r, wX5_begins_44n, wX5_begins_46, wX5_begins_48, wX5_begins_51, wX5_begins_52, wX5_begins_55, wX5_begins_57, wX5_begins_59, wX5_begins_60, wX5_begins_61, wX5_begins_62, wX5_begins_63, wX5_begins_64, wX5_begins_65, wX5_begins_66i, wX5_begins_66r, wX5_begins_66n, wX5_begins_69, wX5_begins_72, h1, h2, h3, h4, Nat.reduceLT, r2_s]
  rw [e1]
  simp only [wX5_begins_0, wX5_begins_1, wX5_begins_4, wX5_begins_5, wX5_begins_6i, wX5_begins_6r, wX5_begins_6n, wX5_begins_7, wX5_begins_8i, wX5_begins_8r, wX5_begins_8n, wX5_begins_10, wX5_begins_13, wX5_begins_16, wX5_begins_17, wX5_begins_20, wX5_begins_21, wX5_begins_22, wX5_begins_23i, wX5_begins_23r, wX5_begins_23n, wX5_begins_26, wX5_begins_29, wX5_begins_30, wX5_begins_33, wX5_begins_34, wX5_begins_35, wX5_begins_36, wX5_begins_37, wX5_begins_40, wX5_begins_41, wX5_begins_42, wX5_begins_43, wX5_begins_44i, wX5_begins_44r, wX5_begins_44n, wX5_begins_46, wX5_begins_48, wX5_begins_51, wX5_begins_52, wX5_begins_55, wX5_begins_57, wX5_begins_59, wX5_begins_60, wX5_begins_61, wX5_begins_62, wX5_begins_63, wX5_begins_64, wX5_begins_65, wX5_begins_66i, wX5_begins_66r, wX5_begins_66n, wX5_begins_69, wX5_begins_72, h1, h2, h3, h4, Nat.reduceLT, r2_s, r2_r2, u2_r2]
  exact bg2 hg 24 0 (by omega)
theorem m_setCi1 (hg : MG g mr) (hM : MS K S (r, q) (r2 mi 293 r) (r2 ml 294 q)) (hR : Rm r 32) (hz : nI 1 ≤ z ∧ z ≤ nI 12) : RC g mr (r2 mi 293 r) (r2 ml 294 q) (callT (d + 3) mX5_setCircuits [.ref 292, .int z] (g, r2 mi 293 r, r2 ml 294 q, mr)) 0 (.int (r 0)) (svK K) (svS K S (r, q)) (pBeg r z, q) := by
  obtain ⟨h1, h2, h3, -, -, -, -, -, -, h4, -⟩ := id hg
  obtain ⟨mi', ml', e1, e2, e3, e4⟩ := m_rc0 (d := d) hg hM hR
  rw [eX5_setCircuits]
  simp only [wX5_setCircuits_0, wX5_setCircuits_1, wX5_setCircuits_2, wX5_setCircuits_3, wX5_setCircuits_5, wX5_setCircuits_8, wX5_setCircuits_11, wX5_setCircuits_12, wX5_setCircuits_15, wX5_setCircuits_16, wX5_setCircuits_19, wX5_setCircuits_22, wX5_setCircuits_23, wX5_setCircuits_24, wX5_setCircuits_25, wX5_setCircuits_28, wX5_setCircuits_29, wX5_setCircuits_30i, wX5_setCircuits_30r, wX5_setCircuits_30n, wX5_setCircuits_31, wX5_setCircuits_32, wX5_setCircuits_33, wX5_setCircuits_36, wX5_setCircuits_37, h1, h2, h3, h4, Nat.reduceLT, cs_0, cs_i, cs_r, m_in, aR_1, aR_v, bI_t hz, n1_0, if_false, e1, if_true, m_begins hg, r2_s]
  exact rc e2 e3 e4
theorem m_setCi0 (hg : MG g mr) (hM : MS K S (r, q) (r2 mi 293 r) (r2 ml 294 q)) (hz : ¬ (nI 1 ≤ z ∧ z ≤ nI 12)) : RC g mr (r2 mi 293 r) (r2 ml 294 q) (callT (d + 3) mX5_setCircuits [.ref 292, .int z] (g, r2 mi 293 r, r2 ml 294 q, mr)) 1 (.int (nI 0)) K S (r, q) := by
  have h1 := hg.1
  obtain ⟨mi', e1, e2, e3, e4⟩ := m_rcx (d := d) (k := 1) hg hM (by decide)
  rw [eX5_setCircuits]
  simp only [wX5_setCircuits_0, wX5_setCircuits_1, wX5_setCircuits_2, wX5_setCircuits_3, wX5_setCircuits_5, wX5_setCircuits_8, wX5_setCircuits_11, wX5_setCircuits_12, wX5_setCircuits_15, wX5_setCircuits_16, wX5_setCircuits_19, wX5_setCircuits_22, wX5_setCircuits_23, wX5_setCircuits_24, wX5_setCircuits_25, wX5_setCircuits_28, wX5_setCircuits_29, wX5_setCircuits_30i, wX5_setCircuits_30r, wX5_setCircuits_30n, wX5_setCircuits_31, wX5_setCircuits_32, wX5_setCircuits_33, wX5_setCircuits_36, wX5_setCircuits_37, h1, cs_0, cs_i, cs_r, m_in, aR_1, bI_f hz, n1_0, if_false, e1, if_true]
  exact rc e2 e3 e4
/-- setFaulty -/
theorem m_setFa1 (hg : MG g mr) (hM : MS K S (r, q) (r2 mi 293 r) (r2 ml 294 q)) (hR : Rm r 32) (hz : isC r (nI c)) (hc : c < 12) (ho : r (12 + c) = nI 0 ∨ r (12 + c) = nI 1) : RC g mr (r2 mi 293 r) (r2 ml 294 q) (callT (d + 3) mX5_setFaulty [.ref 292, .int (nI c), .int z] (g, r2 mi 293 r, r2 ml 294 q, mr)) 0 (.int (r (12 + c))) (svK K) (svS K S (r, q)) (u1 r (12 + c) (if z = nI 0 then nI 0 else nI 1), q) := by
  have h1 := hg.1
  have b1 : 12 + c < 480 := by omega
  obtain ⟨mi', ml', e1, e2, e3, e4⟩ := m_rc0 (d := d) hg hM hR
  rw [eX5_setFaulty]
  have hz' : bI (nI 0 ≤ nI c ∧ nI c ≤ r 0 - nI 1) = nI 1 := bI_t hz
  by_cases p : z = nI 0
  · rcases ho with o | o
    · simp only [wX5_setFaulty_0, wX5_setFaulty_1, wX5_setFaulty_2, wX5_setFaulty_3, wX5_setFaulty_6, wX5_setFaulty_9, wX5_setFaulty_10, wX5_setFaulty_13, wX5_setFaulty_14, wX5_setFaulty_17, wX5_setFaulty_20, wX5_setFaulty_21, wX5_setFaulty_23, wX5_setFaulty_24, wX5_setFaulty_25, wX5_setFaulty_26, wX5_setFaulty_29, wX5_setFaulty_30, wX5_setFaulty_33, wX5_setFaulty_34, wX5_setFaulty_37, wX5_setFaulty_38, wX5_setFaulty_41, wX5_setFaulty_42, wX5_setFaulty_45, wX5_setFaulty_46, h1, cs_0, cs_i, cs_r, m_isCi hg, r2_s, aR_1, hz', n1_0, n0_1, if_false, e1, if_true, nI_add, p, m_becomes hg b1, r2_r2, o, true_or, or_true]
      exact rc e2 e3 e4
    · simp only [wX5_setFaulty_0, wX5_setFaulty_1, wX5_setFaulty_2, wX5_setFaulty_3, wX5_setFaulty_6, wX5_setFaulty_9, wX5_setFaulty_10, wX5_setFaulty_13, wX5_setFaulty_14, wX5_setFaulty_17, wX5_setFaulty_20, wX5_setFaulty_21, wX5_setFaulty_23, wX5_setFaulty_24, wX5_setFaulty_25, wX5_setFaulty_26, wX5_setFaulty_29, wX5_setFaulty_30, wX5_setFaulty_33, wX5_setFaulty_34, wX5_setFaulty_37, wX5_setFaulty_38, wX5_setFaulty_41, wX5_setFaulty_42, wX5_setFaulty_45, wX5_setFaulty_46, h1, cs_0, cs_i, cs_r, m_isCi hg, r2_s, aR_1, hz', n1_0, n0_1, if_false, e1, if_true, nI_add, p, m_becomes hg b1, r2_r2, o, true_or, or_true]
      exact rc e2 e3 e4
  · rcases ho with o | o
    · simp only [wX5_setFaulty_0, wX5_setFaulty_1, wX5_setFaulty_2, wX5_setFaulty_3, wX5_setFaulty_6, wX5_setFaulty_9, wX5_setFaulty_10, wX5_setFaulty_13, wX5_setFaulty_14, wX5_setFaulty_17, wX5_setFaulty_20, wX5_setFaulty_21, wX5_setFaulty_23, wX5_setFaulty_24, wX5_setFaulty_25, wX5_setFaulty_26, wX5_setFaulty_29, wX5_setFaulty_30, wX5_setFaulty_33, wX5_setFaulty_34, wX5_setFaulty_37, wX5_setFaulty_38, wX5_setFaulty_41, wX5_setFaulty_42, wX5_setFaulty_45, wX5_setFaulty_46, h1, cs_0, cs_i, cs_r, m_isCi hg, r2_s, aR_1, hz', n1_0, n0_1, if_false, e1, if_true, nI_add, p, m_becomes hg b1, r2_r2, o, true_or, or_true]
      exact rc e2 e3 e4
    · simp only [wX5_setFaulty_0, wX5_setFaulty_1, wX5_setFaulty_2, wX5_setFaulty_3, wX5_setFaulty_6, wX5_setFaulty_9, wX5_setFaulty_10, wX5_setFaulty_13, wX5_setFaulty_14, wX5_setFaulty_17, wX5_setFaulty_20, wX5_setFaulty_21, wX5_setFaulty_23, wX5_setFaulty_24, wX5_setFaulty_25, wX5_setFaulty_26, wX5_setFaulty_29, wX5_setFaulty_30, wX5_setFaulty_33, wX5_setFaulty_34, wX5_setFaulty_37, wX5_setFaulty_38, wX5_setFaulty_41, wX5_setFaulty_42, wX5_setFaulty_45, wX5_setFaulty_46, h1, cs_0, cs_i, cs_r, m_isCi hg, r2_s, aR_1, hz', n1_0, n0_1, if_false, e1, if_true, nI_add, p, m_becomes hg b1, r2_r2, o, true_or, or_true]
      exact rc e2 e3 e4
theorem m_setFa0 (hg : MG g mr) (hM : MS K S (r, q) (r2 mi 293 r) (r2 ml 294 q)) (hz : ¬ isC r x) : RC g mr (r2 mi 293 r) (r2 ml 294 q) (callT (d + 3) mX5_setFaulty [.ref 292, .int x, .int z] (g, r2 mi 293 r, r2 ml 294 q, mr)) 1 (.int (nI 0)) K S (r, q) := by
  have h1 := hg.1
  obtain ⟨mi', e1, e2, e3, e4⟩ := m_rcx (d := d) (k := 1) hg hM (by decide)
  have hz' : bI (nI 0 ≤ x ∧ x ≤ r 0 - nI 1) = nI 0 := bI_f hz
  rw [eX5_setFaulty]
  simp only [wX5_setFaulty_0, wX5_setFaulty_1, wX5_setFaulty_2, wX5_setFaulty_3, wX5_setFaulty_6, wX5_setFaulty_9, wX5_setFaulty_10, wX5_setFaulty_13, wX5_setFaulty_14, wX5_setFaulty_17, wX5_setFaulty_20, wX5_setFaulty_21, wX5_setFaulty_23, wX5_setFaulty_24, wX5_setFaulty_25, wX5_setFaulty_26, wX5_setFaulty_29, wX5_setFaulty_30, wX5_setFaulty_33, wX5_setFaulty_34, wX5_setFaulty_37, wX5_setFaulty_38, wX5_setFaulty_41, wX5_setFaulty_42, wX5_setFaulty_45, wX5_setFaulty_46, h1, cs_0, cs_i, cs_r, m_isCi hg, r2_s, aR_1, hz', n1_0, if_false, e1, if_true, true_or, or_true]
  exact rc e2 e3 e4
/-- loseNext -/
theorem m_lose1 (hg : MG g mr) (hM : MS K S (r, q) (r2 mi 293 r) (r2 ml 294 q)) (hR : Rm r 32) (he : e < 2) (hz : nI 0 ≤ z ∧ z ≤ nI 100) : RC g mr (r2 mi 293 r) (r2 ml 294 q) (callT (d + 3) mX5_loseNext [.ref 292, .int (nI e), .int z] (g, r2 mi 293 r, r2 ml 294 q, mr)) 0 (.int (r (3 + e))) (svK K) (svS K S (r, q)) (u1 r (3 + e) z, q) := by
  have h1 := hg.1
  have b1 : 3 + e < 480 := by omega
  obtain ⟨mi', ml', e1, e2, e3, e4⟩ := m_rc0 (d := d) hg hM hR
  have hx : bI (nI 0 ≤ nI e ∧ nI e ≤ nI 1) = nI 1 := bI_t ⟨nI_le (by omega) (by omega), nI_le (by omega) (by omega)⟩
  rw [eX5_loseNext]
  simp only [wX5_loseNext_0, wX5_loseNext_1, wX5_loseNext_2, wX5_loseNext_5, wX5_loseNext_8, wX5_loseNext_9, wX5_loseNext_12, wX5_loseNext_13, wX5_loseNext_14, wX5_loseNext_16, wX5_loseNext_19, wX5_loseNext_22, wX5_loseNext_23, wX5_loseNext_26, wX5_loseNext_27, wX5_loseNext_30, wX5_loseNext_33, wX5_loseNext_34, wX5_loseNext_37, wX5_loseNext_38, wX5_loseNext_39, wX5_loseNext_40, wX5_loseNext_41, wX5_loseNext_42, wX5_loseNext_45, h1, cs_0, cs_i, cs_r, m_isEx, m_in, aR_1, hx, bI_t hz, n1_0, if_false, e1, if_true, nI_add, m_becomes hg b1, r2_s, r2_r2]
  exact rc e2 e3 e4
theorem m_lose0 (hg : MG g mr) (hM : MS K S (r, q) (r2 mi 293 r) (r2 ml 294 q)) (hx : ¬ isX x) : RC g mr (r2 mi 293 r) (r2 ml 294 q) (callT (d + 3) mX5_loseNext [.ref 292, .int x, .int z] (g, r2 mi 293 r, r2 ml 294 q, mr)) 1 (.int (nI 0)) K S (r, q) := by
  have h1 := hg.1
  obtain ⟨mi', e1, e2, e3, e4⟩ := m_rcx (d := d) (k := 1) hg hM (by decide)
  have hx' : bI (nI 0 ≤ x ∧ x ≤ nI 1) = nI 0 := bI_f hx
  rw [eX5_loseNext]
  simp only [wX5_loseNext_0, wX5_loseNext_1, wX5_loseNext_2, wX5_loseNext_5, wX5_loseNext_8, wX5_loseNext_9, wX5_loseNext_12, wX5_loseNext_13, wX5_loseNext_14, wX5_loseNext_16, wX5_loseNext_19, wX5_loseNext_22, wX5_loseNext_23, wX5_loseNext_26, wX5_loseNext_27, wX5_loseNext_30, wX5_loseNext_33, wX5_loseNext_34, wX5_loseNext_37, wX5_loseNext_38, wX5_loseNext_39, wX5_loseNext_40, wX5_loseNext_41, wX5_loseNext_42, wX5_loseNext_45, h1, cs_0, cs_i, cs_r, m_isEx, m_in, aR_1, hx', n1_0, if_false, e1, if_true]
  exact rc e2 e3 e4
theorem m_lose2 (hg : MG g mr) (hM : MS K S (r, q) (r2 mi 293 r) (r2 ml 294 q)) (he : e < 2) (hz : ¬ (nI 0 ≤ z ∧ z ≤ nI 100)) : RC g mr (r2 mi 293 r) (r2 ml 294 q) (callT (d + 3) mX5_loseNext [.ref 292, .int (nI e), .int z] (g, r2 mi 293 r, r2 ml 294 q, mr)) 2 (.int (nI 0)) K S (r, q) := by
  have h1 := hg.1
  obtain ⟨mi', e1, e2, e3, e4⟩ := m_rcx (d := d) (k := 2) hg hM (by decide)
  have hx : bI (nI 0 ≤ nI e ∧ nI e ≤ nI 1) = nI 1 := bI_t ⟨nI_le (by omega) (by omega), nI_le (by omega) (by omega)⟩
  rw [eX5_loseNext]
  simp only [wX5_loseNext_0, wX5_loseNext_1, wX5_loseNext_2, wX5_loseNext_5, wX5_loseNext_8, wX5_loseNext_9, wX5_loseNext_12, wX5_loseNext_13, wX5_loseNext_14, wX5_loseNext_16, wX5_loseNext_19, wX5_loseNext_22, wX5_loseNext_23, wX5_loseNext_26, wX5_loseNext_27, wX5_loseNext_30, wX5_loseNext_33, wX5_loseNext_34, wX5_loseNext_37, wX5_loseNext_38, wX5_loseNext_39, wX5_loseNext_40, wX5_loseNext_41, wX5_loseNext_42, wX5_loseNext_45, h1, cs_0, cs_i, cs_r, m_isEx, m_in, aR_1, hx, bI_f hz, n1_0, if_false, e1, if_true]
  exact rc e2 e3 e4
end PUB1
