/-! the law: what each call does on both sides -/
def okP (X : Nat → Nat → Nat) (B T : Nat) (P : PS) : Prop := ∃ N t D, t ≤ T ∧ JI X B N t D P.1 P.2
def AJ (X : Nat → Nat → Nat) (B T K : Nat) (S : Nat → PS) (P : PS) : Prop := okP X B T P ∧ ∀ i, i < K → okP X B T (S i)
/-- one call, made on both sides, answers the same -/
def OPc (X : Nat → Nat → Nat) (B T E K : Nat) (S : Nat → PS) (P : PS) (ML : Mth) (WL : List Value) (MX : Mth) (AL : List Value) : Prop := ∃ code v K' S' P', code ≤ 2 ∧ (∀ g mi ml mr, TGx (E + 1) K S P g mi mr → g.1 297 = 21 → g.2.1 297 = 1 → WR code v E K' S' P' g mi ml mr (callT 12 ML WL (g, mi, ml, mr))) ∧ (∀ g mi ml mr, MG g mr → MS K S P mi ml → RC g mr mi ml (callT 12 MX AL (g, mi, ml, mr)) code (.int v) K' S' P') ∧ AJ X B T K' S' P' ∧ K' ≤ 3
section LSEM
variable {X : Nat → Nat → Nat} {B B' T T' E K N t D w n a b : Nat} {S : Nat → PS} {P P' : PS} {r : Nat → Int32} {q : Nat → Int64} {x y z : Int32} {g : Gh} {mi : MI} {ml : ML} {mr : MR} {pm x1 x2 Ln : Nat → Nat}
theorem okP.mono (h : okP X B T P) (hB : B ≤ B') (hT : T ≤ T') : okP X B' T' P := by
  obtain ⟨N, t, D, h1, h2⟩ := h
  exact ⟨N, t, D, by omega, h2.mono hB⟩
theorem AJ.mono (h : AJ X B T K S P) (hB : B ≤ B') (hT : T ≤ T') : AJ X B' T' K S P := ⟨h.1.mono hB hT, fun i hi => (h.2 i hi).mono hB hT⟩
theorem AJ.sv (h : AJ X B T K S P) (hK : K ≤ 3) (hB : B ≤ B') (hT : T ≤ T') (hP : okP X B' T' P') : AJ X B' T' (svK K) (svS K S P) P' := by
  refine ⟨hP, fun i hi => ?_⟩
  unfold svK at hi
  unfold svS
  by_cases hk : K = 3
  · rw [if_pos hk] at hi ⊢
    by_cases h2 : i = 2
    · rw [if_pos h2]; exact h.1.mono hB hT
    · rw [if_neg h2]; exact (h.2 (i + 1) (by omega)).mono hB hT
  · rw [if_neg hk] at hi ⊢
    by_cases h2 : i = K
    · rw [if_pos h2]; exact h.1.mono hB hT
    · rw [if_neg h2]; exact (h.2 i (by omega)).mono hB hT
theorem svK_le (hK : K ≤ 3) : svK K ≤ 3 := by
  unfold svK
  by_cases hk : K = 3
  · rw [if_pos hk]; decide
  · rw [if_neg hk]; omega
theorem rcE {A : List Value} {M : Mth} {code K' : Nat} {v : Value} {S' : Nat → PS} (hM : MS K S (r, q) mi ml) (H : MS K S (r, q) (r2 mi 293 r) (r2 ml 294 q) → RC g mr (r2 mi 293 r) (r2 ml 294 q) (callT n M A (g, r2 mi 293 r, r2 ml 294 q, mr)) code v K' S' P') : RC g mr mi ml (callT n M A (g, mi, ml, mr)) code v K' S' P' := by
  have e1 : mi 293 = r := hM.1
  have e2 : ml 294 = q := hM.2.1
  have h1 : r2 mi 293 r = mi := by rw [← e1]; exact r2_self
  have h2 : r2 ml 294 q = ml := by rw [← e2]; exact r2_self
  rw [h1, h2] at H
  exact H hM
theorem rngI {lo : Nat} (hn : n < 1000000) (h : nI lo ≤ z ∧ z ≤ nI n) (hlo : lo < 1000000) : ∃ j, lo ≤ j ∧ j ≤ n ∧ z = nI j := by
  have h0 : nI 0 ≤ z := Int32.le_trans (nI_le (Nat.zero_le lo) (by omega)) h.1
  obtain ⟨j, g1, g2⟩ := nI_of2 (x := z) (M := nI n) (n := n) (nI_toInt (by omega)) (Int32.not_lt.mpr h0) h.2
  subst g2
  refine ⟨j, ?_, by omega, rfl⟩
  by_cases h9 : lo ≤ j
  · exact h9
  · exact absurd h.1 (nI_ge (by omega) (by omega))
theorem rngM (hn : n < 1000000) (h : nI 0 ≤ z ∧ z ≤ nI n - nI 1) : ∃ j, j < n ∧ z = nI j := by
  by_cases h1 : 1 ≤ n
  · have h2 := h.2
    rw [pk_sub h1] at h2
    obtain ⟨j, -, g2, g3⟩ := rngI (lo := 0) (n := n - 1) (by omega) ⟨h.1, h2⟩ (by decide)
    exact ⟨j, by omega, g3⟩
  · have h0 : n = 0 := by omega
    subst h0
    exact absurd (Int32.le_trans h.1 h.2) (by decide)
theorem JI.cc (hJ : JI X B N t D r q) : ∃ C, 1 ≤ C ∧ C ≤ 12 ∧ r 0 = nI C := by
  obtain ⟨hh, hb, hJ⟩ := hJ
  exact hJ.1.1
theorem JI.okn {e c : Nat} (hJ : JI X B N t D r q) (he : e < 2) (hc : c < 12) : okN (r (eI e c 1)) := by
  obtain ⟨hh, hb, hJ⟩ := hJ
  have h5 := hJ.1.2.1.2
  rcases (hJ.1.2.2.2.2 e c he hc).own h5 with h1 | ⟨n, h1, h2⟩
  · exact Or.inl h1
  · exact Or.inr ⟨n, by omega, h2⟩
theorem JI.wt0 {e c s : Nat} (hJ : JI X B N t D r q) (he : e < 2) (hc : c < 12) (hs : 3 ≤ s) (hs2 : s < 8) (h : r (eI e c 0) = nI s) : r (eI e c 6) = nI 0 := by
  obtain ⟨hh, hb, hJ⟩ := hJ
  obtain ⟨s', o, tm, ag, lb, rm, wt, vl, bt, ⟨v0, -, -, -, -, -, v6, -⟩, ⟨⟨e1, -, -, -, -, -, e7, -⟩, -, -, -, -, e12, -⟩, -⟩ := hJ.1.2.2.2.2 e c he hc
  have h1 : nI s' = nI s := v0.symm.trans h
  have h2 := (nI_eq (by omega) (by omega)).mp h1
  have h3 : wt = 0 := by omega
  rw [h3] at v6
  exact v6
theorem JI.own2 {e c : Nat} (hJ : JI X B N t D r q) (he : e < 2) (hc : c < 12) (h : r (eI e c 0) = nI 2) : pOwn r e c = -1 := by
  obtain ⟨hh, hb, hJ⟩ := hJ
  obtain ⟨s', o, tm, ag, lb, rm, wt, vl, bt, ⟨v0, v1, -⟩, ⟨⟨e1, e2, -⟩, -, e3, -⟩, -, e4⟩ := hJ.1.2.2.2.2 e c he hc
  have h5 := hJ.1.2.1.2
  have h1 : nI s' = nI 2 := v0.symm.trans h
  have h2 := (nI_eq (by omega) (by omega)).mp h1
  have h3 := e4 h2
  have h4 := e3 h2
  have v1 : r (eI e c 1) = oI o := v1
  have v2 : r (eI e c 1) = nI (o - 1) := by rw [v1]; unfold oI; rw [if_neg (by omega)]
  unfold pOwn
  rw [if_neg]
  intro h9
  have h8 := h9.2
  rw [v2, clampN (by omega), h3] at h8
  have := (nI_eq (by omega) (by omega)).mp h8
  omega
theorem cp_lt {α : Type} {F G : Nat → α} {j : Nat} (h : j < n) : cp F 0 n G j = G j := by
  unfold cp
  rw [if_pos (by omega)]
  rfl
theorem TG.eqP (h : TG E K S P pm x1 x2 Ln g mi mr) (hN : nC P.1 ≤ 40) (h1 : ∀ j, j < 480 → P'.1 j = P.1 j) (h2 : ∀ i, i < nM P.1 → P'.2 i = P.2 i) : TG E K S P' pm x1 x2 Ln g mi mr := by
  obtain ⟨t1, t2, t3, t4, t5⟩ := h
  refine ⟨t1, t2, t3, t4, ?_⟩
  have e1 : nC P'.1 = nC P.1 := by unfold nC; rw [h1 5 (by decide)]
  have e2 : nM P'.1 = nM P.1 := by unfold nM; rw [h1 11 (by decide)]
  rw [e1, e2]
  exact t5.eq480 hN h1 h2
/-- refused, on both sides -/
theorem opX {ML MX : Mth} {WL AL : List Value} {code : Nat} (hA : AJ X B T K S P) (hK : K ≤ 3) (hB : B ≤ B') (hT : T ≤ T') (hc : code = 1 ∨ code = 2) (hw : ∀ g mi ml mr pm x1 x2 Ln, TG (E + 1) K S P pm x1 x2 Ln g mi mr → WR code (nI 0) E K S P g mi ml mr (callT 12 ML WL (g, mi, ml, mr))) (hr : ∀ g mi ml mr, MG g mr → MS K S P mi ml → RC g mr mi ml (callT 12 MX AL (g, mi, ml, mr)) code (.int (nI 0)) K S P) : OPc X B' T' E K S P ML WL MX AL :=
  ⟨code, nI 0, K, S, P, by omega, fun g mi ml mr ⟨pm, x1, x2, Ln, h⟩ _ _ => hw g mi ml mr pm x1 x2 Ln h, hr, hA.mono hB hT, hK⟩
/-- a value is told, on both sides -/
theorem opV {ML MX : Mth} {WL AL : List Value} {v : Int32} (hA : AJ X B T K S P) (hK : K ≤ 3) (hB : B ≤ B') (hT : T ≤ T') (hw : ∀ g mi ml mr pm x1 x2 Ln, TG E K S P pm x1 x2 Ln g mi mr → g.1 297 = 21 → g.2.1 297 = 1 → WR 0 v E K S P g mi ml mr (callT 12 ML WL (g, mi, ml, mr))) (hr : ∀ g mi ml mr, MG g mr → MS K S P mi ml → RC g mr mi ml (callT 12 MX AL (g, mi, ml, mr)) 0 (.int v) K S P) : OPc X B' T' E K S P ML WL MX AL :=
  ⟨0, v, K, S, P, by decide, fun g mi ml mr ⟨pm, x1, x2, Ln, h⟩ k l => hw g mi ml mr pm x1 x2 Ln h.less k l, hr, hA.mono hB hT, hK⟩
/-- something is done, on both sides -/
theorem opD {ML MX : Mth} {WL AL : List Value} {v : Int32} (hA : AJ X B T K S P) (hK : K ≤ 3) (hB : B ≤ B') (hT : T ≤ T') (hP : okP X B' T' P') (hw : ∀ g mi ml mr pm x1 x2 Ln, TG E K S P pm x1 x2 Ln g mi mr → g.1 297 = 21 → g.2.1 297 = 1 → WR 0 v E (svK K) (svS K S P) P' g mi ml mr (callT 12 ML WL (g, mi, ml, mr))) (hr : ∀ g mi ml mr, MG g mr → MS K S P mi ml → RC g mr mi ml (callT 12 MX AL (g, mi, ml, mr)) 0 (.int v) (svK K) (svS K S P) P') : OPc X B' T' E K S P ML WL MX AL :=
  ⟨0, v, svK K, svS K S P, P', by decide, fun g mi ml mr ⟨pm, x1, x2, Ln, h⟩ k l => hw g mi ml mr pm x1 x2 Ln h.less k l, hr, hA.sv hK hB hT hP, svK_le hK⟩
end LSEM
