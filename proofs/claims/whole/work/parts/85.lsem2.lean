/-! the law: each call on both sides -/
section LSE2
variable {X : Nat → Nat → Nat} {B T E K N t D w n a b : Nat} {S : Nat → PS} {P P' : PS} {r : Nat → Int32} {q : Nat → Int64} {x y z : Int32} {g : Gh} {mi : MI} {ml : ML} {mr : MR}
theorem CTr.eqP {oo : Option Res} {ret : Option Value} (h : CTr E K S P g mi ml mr oo ret) (hN : nC P.1 ≤ 40) (h1 : ∀ j, j < 480 → P'.1 j = P.1 j) (h2 : ∀ i, i < nM P.1 → P'.2 i = P.2 i) : CTr E K S P' g mi ml mr oo ret := by
  obtain ⟨pm, x1, x2, Ln, g', mi', ml', mr', e1, e2, e3⟩ := h
  exact ⟨pm, x1, x2, Ln, g', mi', ml', mr', e1, e2.eqP hN h1 h2, e3⟩
theorem sumN_win {f : Nat → Nat} : ∀ n j c, c + j ≤ n → sumN (fun i => f (c + i)) j ≤ sumN f n := by
  intro n
  induction n with
  | zero =>
    intro j c h
    have : j = 0 := by omega
    subst this
    exact Nat.le_refl _
  | succ n ih =>
    intro j c h
    cases j with
    | zero => exact Nat.zero_le _
    | succ j =>
      show sumN (fun i => f (c + i)) j + f (c + j) ≤ sumN f n + f n
      by_cases h9 : c + j = n
      · have h8 := ih j c (by omega)
        rw [h9]; omega
      · have h8 := ih (j + 1) c (by omega)
        have h7 : sumN (fun i => f (c + i)) (j + 1) = sumN (fun i => f (c + i)) j + f (c + j) := rfl
        omega
theorem ss_setCircuits (hA : AJ X B T K S P) (hK : K ≤ 3) (hB : B + w ≤ 12012) : OPc X (B + w) (T + 500) E K S P mL_setCircuits [.ref 2, .int z, .ref 297] mX5_setCircuits [.ref 292, .int z] := by
  obtain ⟨r, q⟩ := P
  obtain ⟨⟨N, t, D, ht, hJ⟩, -⟩ := id hA
  have hJ : JI X B N t D r q := hJ
  have hB0 : B ≤ 12012 := by omega
  have hR := hJ.rm hB0
  obtain ⟨C, hC1, hC, h0⟩ := hJ.cc
  by_cases hz : nI 1 ≤ z ∧ z ≤ nI 12
  · obtain ⟨C, c1, c2, rfl⟩ := rngI (by decide) hz (by decide)
    exact opD hA hK (by omega) (by omega) (P' := (pBeg r (nI C), q)) (v := r 0) ⟨0, 0, D, by omega, hJ.beg c1 c2⟩ (fun g mi ml mr pm x1 x2 Ln h k l => WR.ok (k_setCi1 (d := 5) h hJ c1 c2) (fun g' mi' ml' mr' hc => lw_setCircuits1 h.k2.1 hc) k l) (fun g mi ml mr hg hM => rcE hM (fun hM => m_setCi1 (d := 9) hg hM hR hz))
  · exact opX hA hK (by omega) (by omega) (Or.inl rfl) (fun g mi ml mr pm x1 x2 Ln h => WR.no (k_setCi0 (d := 4) h hz) (fun g' mi' ml' mr' hc => lw_setCircuitsx1 h.k2.1 hc) (by decide)) (fun g mi ml mr hg hM => rcE hM (fun hM => m_setCi0 (d := 9) hg hM hz))
theorem ss_setDelay (hA : AJ X B T K S P) (hK : K ≤ 3) (hB : B + w ≤ 12012) : OPc X (B + w) (T + 500) E K S P mL_setDelay [.ref 2, .int z, .ref 297] mX5_setDelay [.ref 292, .int z] := by
  obtain ⟨r, q⟩ := P
  obtain ⟨⟨N, t, D, ht, hJ⟩, -⟩ := id hA
  have hJ : JI X B N t D r q := hJ
  have hB0 : B ≤ 12012 := by omega
  have hR := hJ.rm hB0
  obtain ⟨C, hC1, hC, h0⟩ := hJ.cc
  by_cases hz : nI 1 ≤ z ∧ z ≤ nI 20
  · obtain ⟨C, c1, c2, rfl⟩ := rngI (by decide) hz (by decide)
    exact opD hA hK (by omega) (by omega) (P' := (u1 r 1 (nI C), q)) (v := r 1) ⟨N, t, C, by omega, (hJ.delay c1 c2).mono (by omega)⟩ (fun g mi ml mr pm x1 x2 Ln h k l => WR.ok (k_setDelay1 (d := 6) h hJ c1 c2) (fun g' mi' ml' mr' hc => lw_setDelay1 h.k2.1 hc) k l) (fun g mi ml mr hg hM => rcE hM (fun hM => m_setDelay1 (d := 9) hg hM hR hz))
  · exact opX hA hK (by omega) (by omega) (Or.inl rfl) (fun g mi ml mr pm x1 x2 Ln h => WR.no (k_setDelay0 (d := 4) h hz) (fun g' mi' ml' mr' hc => lw_setDelayx1 h.k2.1 hc) (by decide)) (fun g mi ml mr hg hM => rcE hM (fun hM => m_setDelay0 (d := 9) hg hM hz))
theorem ss_setFaulty (hA : AJ X B T K S P) (hK : K ≤ 3) (hB : B + w ≤ 12012) (hz : z = nI 0 ∨ z = nI 1) : ∃ code v K' S' P', (v = nI 0 ∨ v = nI 1) ∧ code ≤ 2 ∧ (∀ g mi ml mr, TGx (E + 1) K S P g mi mr → g.1 297 = 21 → g.2.1 297 = 1 → WR code v E K' S' P' g mi ml mr (callT 12 mL_setFaulty [.ref 2, .int x, .int z, .ref 297] (g, mi, ml, mr))) ∧ (∀ g mi ml mr, MG g mr → MS K S P mi ml → RC g mr mi ml (callT 12 mX5_setFaulty [.ref 292, .int x, .int z] (g, mi, ml, mr)) code (.int v) K' S' P') ∧ AJ X (B + w) (T + 500) K' S' P' ∧ K' ≤ 3 := by
  obtain ⟨r, q⟩ := P
  obtain ⟨⟨N, t, D, ht, hJ⟩, -⟩ := id hA
  have hJ : JI X B N t D r q := hJ
  have hB0 : B ≤ 12012 := by omega
  have hR := hJ.rm hB0
  obtain ⟨C, hC1, hC, h0⟩ := hJ.cc
  have hzz : (if z = nI 0 then nI 0 else nI 1) = z := by
    rcases hz with rfl | rfl
    · rfl
    · rfl
  have hzk : ∃ k, k < 2 ∧ z = nI k := by
    rcases hz with rfl | rfl
    · exact ⟨0, by decide, rfl⟩
    · exact ⟨1, by decide, rfl⟩
  obtain ⟨k, hk, hzk⟩ := hzk
  by_cases hx : isC r x
  · have hx' := hx
    obtain ⟨c, hc, rfl⟩ := isC_e h0 hC1 hC hx
    have hf := hJ.fau (show c < 12 by omega)
    have hj : JI X (B + w) N t D (u1 r (12 + c) z) q := by
      rw [hzk]; exact (hJ.faulty (show c < 12 by omega) hk).mono (by omega)
    refine ⟨0, r (12 + c), svK K, svS K S (r, q), (u1 r (12 + c) z, q), hf, by decide, fun g mi ml mr ⟨pm, x1, x2, Ln, h⟩ k l => WR.ok (k_setFa1 (d := 6) h.less hJ h0 hC1 hC hc hz) (fun g' mi' ml' mr' hc => lw_setFaulty1 hf h.k2.1 hc) k l, fun g mi ml mr hg hM => rcE hM (fun hM => ?_), hA.sv hK (by omega) (by omega) ⟨N, t, D, by omega, hj⟩, svK_le hK⟩
    have e := m_setFa1 (d := 9) (z := z) hg hM hR hx' (show c < 12 by omega) hf
    rw [hzz] at e
    exact e
  · exact ⟨1, nI 0, K, S, (r, q), Or.inl rfl, by decide, fun g mi ml mr ⟨pm, x1, x2, Ln, h⟩ _ _ => WR.no (k_setFa0 (d := 3) h h0 hC1 hC hx) (fun g' mi' ml' mr' hc => lw_setFaultyx1 h.k2.1 hc) (by decide), fun g mi ml mr hg hM => rcE hM (fun hM => m_setFa0 (d := 9) hg hM hx), hA.mono (by omega) (by omega), hK⟩
theorem ss_loseNext (hA : AJ X B T K S P) (hK : K ≤ 3) (hB : B + w ≤ 12012) : OPc X (B + w) (T + 500) E K S P mL_loseNext [.ref 2, .int x, .int z, .ref 297] mX5_loseNext [.ref 292, .int x, .int z] := by
  obtain ⟨r, q⟩ := P
  obtain ⟨⟨N, t, D, ht, hJ⟩, -⟩ := id hA
  have hJ : JI X B N t D r q := hJ
  have hB0 : B ≤ 12012 := by omega
  have hR := hJ.rm hB0
  obtain ⟨C, hC1, hC, h0⟩ := hJ.cc
  by_cases hx : isX x
  · obtain ⟨e, he, rfl⟩ := isX_e hx
    by_cases hz : nI 0 ≤ z ∧ z ≤ nI 100
    · exact opD hA hK (by omega) (by omega) (P' := (u1 r (3 + e) z, q)) (v := r (3 + e)) ⟨N, t, D, by omega, (hJ.lose he).mono (by omega)⟩ (fun g mi ml mr pm x1 x2 Ln h k l => WR.ok (k_lose1 (d := 6) h hJ he hz) (fun g' mi' ml' mr' hc => lw_loseNext1 h.k2.1 hc) k l) (fun g mi ml mr hg hM => rcE hM (fun hM => m_lose1 (d := 9) hg hM hR he hz))
    · exact opX hA hK (by omega) (by omega) (Or.inr rfl) (fun g mi ml mr pm x1 x2 Ln h => WR.no (k_lose2 (d := 4) h he hz) (fun g' mi' ml' mr' hc => lw_loseNextx2 h.k2.1 hc) (by decide)) (fun g mi ml mr hg hM => rcE hM (fun hM => m_lose2 (d := 9) hg hM he hz))
  · exact opX hA hK (by omega) (by omega) (Or.inl rfl) (fun g mi ml mr pm x1 x2 Ln h => WR.no (k_lose0 (d := 3) h hx) (fun g' mi' ml' mr' hc => lw_loseNextx1 h.k2.1 hc) (by decide)) (fun g mi ml mr hg hM => rcE hM (fun hM => m_lose0 (d := 9) hg hM hx))
theorem ss_call (hA : AJ X B T K S P) (hK : K ≤ 3) (hB : B + w ≤ 12012) (h6 : 6 ≤ w) (hz : z = nI 0 ∨ z = nI 1) : OPc X (B + w) (T + 500) E K S P mL_call [.ref 2, .int x, .int z, .ref 297] mX5_call [.ref 292, .int x, .int z] := by
  obtain ⟨r, q⟩ := P
  obtain ⟨⟨N, t, D, ht, hJ⟩, -⟩ := id hA
  have hJ : JI X B N t D r q := hJ
  have hB0 : B ≤ 12012 := by omega
  have hR := hJ.rm hB0
  obtain ⟨C, hC1, hC, h0⟩ := hJ.cc
  have hF := hJ.fs
  have h5 := hF.2.2.2.2.1
  have hN := hF.2.2.2.1
  have hzk : ∃ k, k < 2 ∧ z = nI k ∧ (if z = nI 0 then 0 else 1) = k := by
    rcases hz with rfl | rfl
    · exact ⟨0, by decide, rfl, rfl⟩
    · exact ⟨1, by decide, rfl, rfl⟩
  obtain ⟨k, hk, hzk, hik⟩ := hzk
  by_cases hx : isX x
  · obtain ⟨e, he, rfl⟩ := isX_e hx
    by_cases hno : r 5 = nI 40 ∨ mChosen r e (-1) C = -1
    · exact opX hA hK (by omega) (by omega) (Or.inr rfl) (fun g mi ml mr pm x1 x2 Ln h => WR.no (k_call2 (d := 4) h hJ h0 hC he hno) (fun g' mi' ml' mr' hc => lw_callx2 h.k2.1 hc) (by decide)) (fun g mi ml mr hg hM => rcE hM (fun hM => m_call2 (d := 7) hg hM he h0 hC hno))
    · have hN4 : N < 40 := by
        by_cases h9 : N = 40
        · exact absurd (Or.inl (by rw [h5, h9])) hno
        · omega
      rcases mChosen_fr (r := r) (e := e) (but := -1) C with h9 | ⟨c, hc, hidle, hch⟩
      · exact absurd (Or.inr h9) hno
      · have hc12 : c < 12 := by omega
        refine opD hA hK (by omega) (by omega) (P' := pAtt (pNew r N e k) q N e k c) (v := nI N) ⟨N + 1, t, D, by omega, (hJ.call (by omega) hN4 he hk hc12 hidle).mono (by omega)⟩ (fun g mi ml mr pm x1 x2 Ln h k' l => ?_) (fun g mi ml mr hg hM => rcE hM (fun hM => ?_))
        · subst hzk
          exact WR.ok (k_call1 (d := 6) h hJ (by omega) h0 hC1 hC he hk hN4 hc12 hch hidle) (fun g' mi' ml' mr' hc => lw_call1 h.k2.1 hc) k' l
        · have e := m_call1 (d := 7) (z := z) hg hM hR he h0 hC h5 hN4 hc12 hch
          rw [hik] at e
          exact e
  · exact opX hA hK (by omega) (by omega) (Or.inl rfl) (fun g mi ml mr pm x1 x2 Ln h => WR.no (k_call0 (d := 3) h hx) (fun g' mi' ml' mr' hc => lw_callx1 h.k2.1 hc) (by decide)) (fun g mi ml mr hg hM => rcE hM (fun hM => m_call0 (d := 7) hg hM hx))
theorem ss_accept (hA : AJ X B T K S P) (hK : K ≤ 3) (hB : B + w ≤ 12012) (h6 : 6 ≤ w) : OPc X (B + w) (T + 500) E K S P mL_accept [.ref 2, .int x, .int y, .ref 297] mX5_accept [.ref 292, .int x, .int y] := by
  obtain ⟨r, q⟩ := P
  obtain ⟨⟨N, t, D, ht, hJ⟩, -⟩ := id hA
  have hJ : JI X B N t D r q := hJ
  have hB0 : B ≤ 12012 := by omega
  have hR := hJ.rm hB0
  obtain ⟨C, hC1, hC, h0⟩ := hJ.cc
  by_cases hx : isX x ∧ isC r y
  · obtain ⟨e, he, rfl⟩ := isX_e hx.1
    obtain ⟨c, hc, rfl⟩ := isC_e h0 hC1 hC hx.2
    have hc12 : c < 12 := by omega
    have hCn := isC_n h0 hC1 hC hc
    have ho := hJ.okn he hc12
    by_cases hf : r (eI e c 0) = nI 2 ∧ r (eI e c 6) = nI 0
    · have hw := hJ.own2 he hc12 hf.1
      exact opD hA hK (by omega) (by omega) (P' := pDo r q e c 2 3) (v := r (eI e c 1)) ⟨N, t, D, by omega, (hJ.does hB0 he hc12 (by decide) (by decide) (by decide) hf.1 (by decide) (by decide) hf.2).mono (by omega)⟩ (fun g mi ml mr pm x1 x2 Ln h k l => WR.ok (k_accept1 (d := 5) h hJ hB0 h0 hC1 hC he hc hf.1 hf.2) (fun g' mi' ml' mr' hc => lw_accept1 h.k2.1 hc) k l) (fun g mi ml mr hg hM => rcE hM (fun hM => m_accept (d := 7) hg (m_does1 (d := 7) hg hM hR he hc12 hCn ho (by decide) hf.1 hw hf.2)))
    · exact opX hA hK (by omega) (by omega) (Or.inr rfl) (fun g mi ml mr pm x1 x2 Ln h => WR.no (k_accept2 (d := 2) h h0 hC1 hC he hc hf) (fun g' mi' ml' mr' hc => lw_acceptx2 h.k2.1 hc) (by decide)) (fun g mi ml mr hg hM => rcE hM (fun hM => m_accept (d := 7) hg (m_does2 (d := 7) hg hM he hc12 hCn ho (fun h9 => hf ⟨h9.1, h9.2.2⟩))))
  · exact opX hA hK (by omega) (by omega) (Or.inl rfl) (fun g mi ml mr pm x1 x2 Ln h => WR.no (k_accept0 (d := 2) h h0 hC1 hC hx) (fun g' mi' ml' mr' hc => lw_acceptx1 h.k2.1 hc) (by decide)) (fun g mi ml mr hg hM => rcE hM (fun hM => m_accept (d := 7) hg (m_does0 (d := 7) hg hM hx)))
theorem ss_answer (hA : AJ X B T K S P) (hK : K ≤ 3) (hB : B + w ≤ 12012) (h6 : 6 ≤ w) : OPc X (B + w) (T + 500) E K S P mL_answer [.ref 2, .int x, .int y, .ref 297] mX5_answer [.ref 292, .int x, .int y] := by
  obtain ⟨r, q⟩ := P
  obtain ⟨⟨N, t, D, ht, hJ⟩, -⟩ := id hA
  have hJ : JI X B N t D r q := hJ
  have hB0 : B ≤ 12012 := by omega
  have hR := hJ.rm hB0
  obtain ⟨C, hC1, hC, h0⟩ := hJ.cc
  by_cases hx : isX x ∧ isC r y
  · obtain ⟨e, he, rfl⟩ := isX_e hx.1
    obtain ⟨c, hc, rfl⟩ := isC_e h0 hC1 hC hx.2
    have hc12 : c < 12 := by omega
    have hCn := isC_n h0 hC1 hC hc
    have ho := hJ.okn he hc12
    by_cases hf : r (eI e c 0) = nI 3 ∧ pOwn r e c = -1
    · have hw := hJ.wt0 he hc12 (by decide) (by decide) hf.1
      exact opD hA hK (by omega) (by omega) (P' := pDo r q e c 3 4) (v := r (eI e c 1)) ⟨N, t, D, by omega, (hJ.does hB0 he hc12 (by decide) (by decide) (by decide) hf.1 (by decide) (by decide) hw).mono (by omega)⟩ (fun g mi ml mr pm x1 x2 Ln h k l => WR.ok (k_answer1 (d := 5) h hJ hB0 h0 hC1 hC he hc hf.1 hf.2 hw) (fun g' mi' ml' mr' hc => lw_answer1 h.k2.1 hc) k l) (fun g mi ml mr hg hM => rcE hM (fun hM => m_answer (d := 7) hg (m_does1 (d := 7) hg hM hR he hc12 hCn ho (by decide) hf.1 hf.2 hw)))
    · exact opX hA hK (by omega) (by omega) (Or.inr rfl) (fun g mi ml mr pm x1 x2 Ln h => WR.no (k_answer2 (d := 2) h hJ h0 hC1 hC he hc hf) (fun g' mi' ml' mr' hc => lw_answerx2 h.k2.1 hc) (by decide)) (fun g mi ml mr hg hM => rcE hM (fun hM => m_answer (d := 7) hg (m_does2 (d := 7) hg hM he hc12 hCn ho (fun h9 => hf ⟨h9.1, h9.2.1⟩))))
  · exact opX hA hK (by omega) (by omega) (Or.inl rfl) (fun g mi ml mr pm x1 x2 Ln h => WR.no (k_answer0 (d := 2) h h0 hC1 hC hx) (fun g' mi' ml' mr' hc => lw_answerx1 h.k2.1 hc) (by decide)) (fun g mi ml mr hg hM => rcE hM (fun hM => m_answer (d := 7) hg (m_does0 (d := 7) hg hM hx)))
theorem ss_suspend (hA : AJ X B T K S P) (hK : K ≤ 3) (hB : B + w ≤ 12012) (h6 : 6 ≤ w) : OPc X (B + w) (T + 500) E K S P mL_suspend [.ref 2, .int x, .int y, .ref 297] mX5_suspend [.ref 292, .int x, .int y] := by
  obtain ⟨r, q⟩ := P
  obtain ⟨⟨N, t, D, ht, hJ⟩, -⟩ := id hA
  have hJ : JI X B N t D r q := hJ
  have hB0 : B ≤ 12012 := by omega
  have hR := hJ.rm hB0
  obtain ⟨C, hC1, hC, h0⟩ := hJ.cc
  by_cases hx : isX x ∧ isC r y
  · obtain ⟨e, he, rfl⟩ := isX_e hx.1
    obtain ⟨c, hc, rfl⟩ := isC_e h0 hC1 hC hx.2
    have hc12 : c < 12 := by omega
    have hCn := isC_n h0 hC1 hC hc
    have ho := hJ.okn he hc12
    by_cases hf : r (eI e c 0) = nI 4 ∧ pOwn r e c = -1
    · have hw := hJ.wt0 he hc12 (by decide) (by decide) hf.1
      exact opD hA hK (by omega) (by omega) (P' := pDo r q e c 4 5) (v := r (eI e c 1)) ⟨N, t, D, by omega, (hJ.does hB0 he hc12 (by decide) (by decide) (by decide) hf.1 (by decide) (by decide) hw).mono (by omega)⟩ (fun g mi ml mr pm x1 x2 Ln h k l => WR.ok (k_suspend1 (d := 5) h hJ hB0 h0 hC1 hC he hc hf.1 hf.2 hw) (fun g' mi' ml' mr' hc => lw_suspend1 h.k2.1 hc) k l) (fun g mi ml mr hg hM => rcE hM (fun hM => m_suspend (d := 7) hg (m_does1 (d := 7) hg hM hR he hc12 hCn ho (by decide) hf.1 hf.2 hw)))
    · exact opX hA hK (by omega) (by omega) (Or.inr rfl) (fun g mi ml mr pm x1 x2 Ln h => WR.no (k_suspend2 (d := 2) h hJ h0 hC1 hC he hc hf) (fun g' mi' ml' mr' hc => lw_suspendx2 h.k2.1 hc) (by decide)) (fun g mi ml mr hg hM => rcE hM (fun hM => m_suspend (d := 7) hg (m_does2 (d := 7) hg hM he hc12 hCn ho (fun h9 => hf ⟨h9.1, h9.2.1⟩))))
  · exact opX hA hK (by omega) (by omega) (Or.inl rfl) (fun g mi ml mr pm x1 x2 Ln h => WR.no (k_suspend0 (d := 2) h h0 hC1 hC hx) (fun g' mi' ml' mr' hc => lw_suspendx1 h.k2.1 hc) (by decide)) (fun g mi ml mr hg hM => rcE hM (fun hM => m_suspend (d := 7) hg (m_does0 (d := 7) hg hM hx)))
theorem ss_resume (hA : AJ X B T K S P) (hK : K ≤ 3) (hB : B + w ≤ 12012) (h6 : 6 ≤ w) : OPc X (B + w) (T + 500) E K S P mL_resume [.ref 2, .int x, .int y, .ref 297] mX5_resume [.ref 292, .int x, .int y] := by
  obtain ⟨r, q⟩ := P
  obtain ⟨⟨N, t, D, ht, hJ⟩, -⟩ := id hA
  have hJ : JI X B N t D r q := hJ
  have hB0 : B ≤ 12012 := by omega
  have hR := hJ.rm hB0
  obtain ⟨C, hC1, hC, h0⟩ := hJ.cc
  by_cases hx : isX x ∧ isC r y
  · obtain ⟨e, he, rfl⟩ := isX_e hx.1
    obtain ⟨c, hc, rfl⟩ := isC_e h0 hC1 hC hx.2
    have hc12 : c < 12 := by omega
    have hCn := isC_n h0 hC1 hC hc
    have ho := hJ.okn he hc12
    by_cases hf : r (eI e c 0) = nI 5 ∧ pOwn r e c = -1
    · have hw := hJ.wt0 he hc12 (by decide) (by decide) hf.1
      exact opD hA hK (by omega) (by omega) (P' := pDo r q e c 5 4) (v := r (eI e c 1)) ⟨N, t, D, by omega, (hJ.does hB0 he hc12 (by decide) (by decide) (by decide) hf.1 (by decide) (by decide) hw).mono (by omega)⟩ (fun g mi ml mr pm x1 x2 Ln h k l => WR.ok (k_resume1 (d := 5) h hJ hB0 h0 hC1 hC he hc hf.1 hf.2 hw) (fun g' mi' ml' mr' hc => lw_resume1 h.k2.1 hc) k l) (fun g mi ml mr hg hM => rcE hM (fun hM => m_resume (d := 7) hg (m_does1 (d := 7) hg hM hR he hc12 hCn ho (by decide) hf.1 hf.2 hw)))
    · exact opX hA hK (by omega) (by omega) (Or.inr rfl) (fun g mi ml mr pm x1 x2 Ln h => WR.no (k_resume2 (d := 2) h hJ h0 hC1 hC he hc hf) (fun g' mi' ml' mr' hc => lw_resumex2 h.k2.1 hc) (by decide)) (fun g mi ml mr hg hM => rcE hM (fun hM => m_resume (d := 7) hg (m_does2 (d := 7) hg hM he hc12 hCn ho (fun h9 => hf ⟨h9.1, h9.2.1⟩))))
  · exact opX hA hK (by omega) (by omega) (Or.inl rfl) (fun g mi ml mr pm x1 x2 Ln h => WR.no (k_resume0 (d := 2) h h0 hC1 hC hx) (fun g' mi' ml' mr' hc => lw_resumex1 h.k2.1 hc) (by decide)) (fun g mi ml mr hg hM => rcE hM (fun hM => m_resume (d := 7) hg (m_does0 (d := 7) hg hM hx)))
theorem ss_release (hA : AJ X B T K S P) (hK : K ≤ 3) (hB : B + w ≤ 12012) (h6 : 6 ≤ w) : OPc X (B + w) (T + 500) E K S P mL_release [.ref 2, .int x, .int y, .ref 297] mX5_release [.ref 292, .int x, .int y] := by
  obtain ⟨r, q⟩ := P
  obtain ⟨⟨N, t, D, ht, hJ⟩, -⟩ := id hA
  have hJ : JI X B N t D r q := hJ
  have hB0 : B ≤ 12012 := by omega
  have hR := hJ.rm hB0
  obtain ⟨C, hC1, hC, h0⟩ := hJ.cc
  by_cases hx : isX x ∧ isC r y
  · obtain ⟨e, he, rfl⟩ := isX_e hx.1
    obtain ⟨c, hc, rfl⟩ := isC_e h0 hC1 hC hx.2
    have hc12 : c < 12 := by omega
    have hCn := isC_n h0 hC1 hC hc
    have ho := hJ.okn he hc12
    by_cases hs : nI 1 ≤ r (eI e c 0) ∧ r (eI e c 0) ≤ nI 5
    · exact opD hA hK (by omega) (by omega) (P' := pRel r q e c 0) (v := r (eI e c 1)) ⟨N, t, D, by omega, (hJ.rel hB0 he hc12).mono (by omega)⟩ (fun g mi ml mr pm x1 x2 Ln h k l => WR.ok (k_release1 (d := 5) h hJ hB0 h0 hC1 hC he hc hs) (fun g' mi' ml' mr' hc => lw_release1 h.k2.1 hc) k l) (fun g mi ml mr hg hM => rcE hM (fun hM => m_release1 (d := 7) hg hM hR he hc12 hCn ho hs))
    · exact opX hA hK (by omega) (by omega) (Or.inr rfl) (fun g mi ml mr pm x1 x2 Ln h => WR.no (k_release2 (d := 2) h hJ h0 hC1 hC he hc hs) (fun g' mi' ml' mr' hc => lw_releasex2 h.k2.1 hc) (by decide)) (fun g mi ml mr hg hM => rcE hM (fun hM => m_release2 (d := 7) hg hM he hc12 hCn hs))
  · exact opX hA hK (by omega) (by omega) (Or.inl rfl) (fun g mi ml mr pm x1 x2 Ln h => WR.no (k_release0 (d := 2) h h0 hC1 hC hx) (fun g' mi' ml' mr' hc => lw_releasex1 h.k2.1 hc) (by decide)) (fun g mi ml mr hg hM => rcE hM (fun hM => m_release0 (d := 7) hg hM hx))
theorem ss_block (hA : AJ X B T K S P) (hK : K ≤ 3) (hB : B + 1 ≤ 12012) (hX : ∀ e c, e < 2 → c < 12 → x = nI e → y = nI c → X e c = 1) : OPc X (B + 1) (T + 500) E K S P mL_block [.ref 2, .int x, .int y, .ref 297] mX5_block [.ref 292, .int x, .int y] := by
  obtain ⟨r, q⟩ := P
  obtain ⟨⟨N, t, D, ht, hJ⟩, -⟩ := id hA
  have hJ : JI X B N t D r q := hJ
  have hB0 : B ≤ 12012 := by omega
  have hR := hJ.rm hB0
  obtain ⟨C, hC1, hC, h0⟩ := hJ.cc
  by_cases hx : isX x ∧ isC r y
  · obtain ⟨e, he, rfl⟩ := isX_e hx.1
    obtain ⟨c, hc, rfl⟩ := isC_e h0 hC1 hC hx.2
    have hc12 : c < 12 := by omega
    have hCn := isC_n h0 hC1 hC hc
    have ho := hJ.okn he hc12
    have hXe := hX e c he hc12 rfl rfl
    by_cases hs : nI 1 ≤ r (eI e c 4) ∧ r (eI e c 4) ≤ nI 2
    · exact opX hA hK (by omega) (by omega) (Or.inr rfl) (fun g mi ml mr pm x1 x2 Ln h => WR.no (k_block2 (d := 2) h hJ h0 hC1 hC he hc hs) (fun g' mi' ml' mr' hc => lw_blockx2 h.k2.1 hc) (by decide)) (fun g mi ml mr hg hM => rcE hM (fun hM => m_block (d := 7) hg (m_blocks2 (d := 7) hg hM he hc12 hCn (Or.inl ⟨rfl, hs⟩))))
    · exact opD hA hK (by omega) (by omega) (P' := pBk r q e c 8 1) (v := r (eI e c 4)) ⟨N, t, D, by omega, hJ.blk hB0 he hc12 (Or.inl rfl) (Or.inl ⟨rfl, hXe⟩)⟩ (fun g mi ml mr pm x1 x2 Ln h k l => WR.ok (k_block1 (d := 6) h hJ hB0 hXe h0 hC1 hC he hc hs) (fun g' mi' ml' mr' hc => lw_block1 h.k2.1 hc) k l) (fun g mi ml mr hg hM => rcE hM (fun hM => m_block (d := 7) hg (m_blocks1 (d := 7) hg hM hR he hc12 hCn (by decide) (Or.inl ⟨rfl, hs⟩))))
  · exact opX hA hK (by omega) (by omega) (Or.inl rfl) (fun g mi ml mr pm x1 x2 Ln h => WR.no (k_block0 (d := 2) h h0 hC1 hC hx) (fun g' mi' ml' mr' hc => lw_blockx1 h.k2.1 hc) (by decide)) (fun g mi ml mr hg hM => rcE hM (fun hM => m_block (d := 7) hg (m_blocks0 (d := 7) hg hM hx)))
theorem ss_unblock (hA : AJ X B T K S P) (hK : K ≤ 3) (hB : B + w ≤ 12012) (h6 : 6 ≤ w) : OPc X (B + w) (T + 500) E K S P mL_unblock [.ref 2, .int x, .int y, .ref 297] mX5_unblock [.ref 292, .int x, .int y] := by
  obtain ⟨r, q⟩ := P
  obtain ⟨⟨N, t, D, ht, hJ⟩, -⟩ := id hA
  have hJ : JI X B N t D r q := hJ
  have hB0 : B ≤ 12012 := by omega
  have hR := hJ.rm hB0
  obtain ⟨C, hC1, hC, h0⟩ := hJ.cc
  by_cases hx : isX x ∧ isC r y
  · obtain ⟨e, he, rfl⟩ := isX_e hx.1
    obtain ⟨c, hc, rfl⟩ := isC_e h0 hC1 hC hx.2
    have hc12 : c < 12 := by omega
    have hCn := isC_n h0 hC1 hC hc
    have ho := hJ.okn he hc12
    by_cases hs : nI 1 ≤ r (eI e c 4) ∧ r (eI e c 4) ≤ nI 2
    · exact opD hA hK (by omega) (by omega) (P' := pBk r q e c 10 3) (v := r (eI e c 4)) ⟨N, t, D, by omega, (hJ.blk hB0 he hc12 (Or.inr rfl) (Or.inr rfl)).mono (by omega)⟩ (fun g mi ml mr pm x1 x2 Ln h k l => WR.ok (k_unblock1 (d := 6) h hJ hB0 h0 hC1 hC he hc hs) (fun g' mi' ml' mr' hc => lw_unblock1 h.k2.1 hc) k l) (fun g mi ml mr hg hM => rcE hM (fun hM => m_unblock (d := 7) hg (m_blocks1 (d := 7) hg hM hR he hc12 hCn (by decide) (Or.inr ⟨rfl, hs⟩))))
    · exact opX hA hK (by omega) (by omega) (Or.inr rfl) (fun g mi ml mr pm x1 x2 Ln h => WR.no (k_unblock2 (d := 2) h hJ h0 hC1 hC he hc hs) (fun g' mi' ml' mr' hc => lw_unblockx2 h.k2.1 hc) (by decide)) (fun g mi ml mr hg hM => rcE hM (fun hM => m_unblock (d := 7) hg (m_blocks2 (d := 7) hg hM he hc12 hCn (Or.inr ⟨rfl, hs⟩))))
  · exact opX hA hK (by omega) (by omega) (Or.inl rfl) (fun g mi ml mr pm x1 x2 Ln h => WR.no (k_unblock0 (d := 2) h h0 hC1 hC hx) (fun g' mi' ml' mr' hc => lw_unblockx1 h.k2.1 hc) (by decide)) (fun g mi ml mr hg hM => rcE hM (fun hM => m_unblock (d := 7) hg (m_blocks0 (d := 7) hg hM hx)))
theorem ss_reset (hA : AJ X B T K S P) (hK : K ≤ 3) (hB : B + w ≤ 12012) (hW : ∀ e, e < 2 → 12 + sumN (X e) 12 ≤ w) : OPc X (B + w) (T + 500) E K S P mL_reset [.ref 2, .int x, .int y, .int z, .ref 297] mX5_reset [.ref 292, .int x, .int y, .int z] := by
  obtain ⟨r, q⟩ := P
  obtain ⟨⟨N, t, D, ht, hJ⟩, -⟩ := id hA
  have hJ : JI X B N t D r q := hJ
  have hB0 : B ≤ 12012 := by omega
  have hR := hJ.rm hB0
  obtain ⟨C, hC1, hC, h0⟩ := hJ.cc
  by_cases hx : (isX x ∧ isC r y) ∧ isC r z ∧ y ≤ z
  · obtain ⟨e, he, rfl⟩ := isX_e hx.1.1
    obtain ⟨a, ha, rfl⟩ := isC_e h0 hC1 hC hx.1.2
    obtain ⟨b, hb, rfl⟩ := isC_e h0 hC1 hC hx.2.1
    have hab : a ≤ b := by
      by_cases h9 : a ≤ b
      · exact h9
      · exact absurd hx.2.2 (nI_ge (by omega) (by omega))
    have hs := sumN_win (f := X (1 - e)) 12 (b + 1 - a) a (by omega)
    have hw := hW (1 - e) (by omega)
    have hj := JI.rs he (b + 1 - a) a B r q (by omega) hJ (by omega)
    exact opD hA hK (by omega) (by omega) (P' := pRs e (b + 1 - a) a (r, q)) (v := nI (nRs e (b + 1 - a) a (r, q))) ⟨N, t, D, by omega, hj.mono (by omega)⟩ (fun g mi ml mr pm x1 x2 Ln h k l => WR.ok (k_reset1 (d := 6) h hJ hB0 h0 hC1 hC he hb hab) (fun g' mi' ml' mr' hc => lw_reset1 h.k2.1 hc) k l) (fun g mi ml mr hg hM => rcE hM (fun hM => m_reset1 (d := 7) hg hM hR hJ.wf he (show b < 12 by omega) hab (isC_n h0 hC1 hC ha) (isC_n h0 hC1 hC hb)))
  · exact opX hA hK (by omega) (by omega) (Or.inl rfl) (fun g mi ml mr pm x1 x2 Ln h => WR.no (k_reset0 (d := 3) h h0 hC1 hC hx) (fun g' mi' ml' mr' hc => lw_resetx1 h.k2.1 hc) (by decide)) (fun g mi ml mr hg hM => rcE hM (fun hM => m_reset0 (d := 7) hg hM hx))
theorem ss_tick (hA : AJ X B T K S P) (hK : K ≤ 3) (hB : B + w ≤ 12012) (hX : ∀ e c, X e c ≤ 1) (hT : T + 500 ≤ 300000) : OPc X (B + w) (T + 500) E K S P mL_tick [.ref 2, .int z, .ref 297] mX5_tick [.ref 292, .int z] := by
  obtain ⟨r, q⟩ := P
  obtain ⟨⟨N, t, D, ht, hJ⟩, -⟩ := id hA
  have hJ : JI X B N t D r q := hJ
  have hB0 : B ≤ 12012 := by omega
  have hR := hJ.rm hB0
  obtain ⟨C, hC1, hC, h0⟩ := hJ.cc
  by_cases hz : nI 1 ≤ z ∧ z ≤ nI 500
  · obtain ⟨n, c1, c2, rfl⟩ := rngI (by decide) hz (by decide)
    have htn : t + n ≤ 300000 := by omega
    exact opD hA hK (by omega) (by omega) (P' := pTkI n (r, q)) (v := nI (nTkI n (r, q))) ⟨N, t + n, D, by omega, (JI.tkI hX hB0 n t r q hJ htn).mono (by omega)⟩ (fun g mi ml mr pm x1 x2 Ln h k l => WR.ok (k_tick1 (d := 2) h hJ hX hB0 c1 c2 htn) (fun g' mi' ml' mr' hc => lw_tick1 h.k2.1 hc) k l) (fun g mi ml mr hg hM => rcE hM (fun hM => m_tick1 (d := 2) hg hM hJ hX hB0 c1 c2 htn))
  · exact opX hA hK (by omega) (by omega) (Or.inl rfl) (fun g mi ml mr pm x1 x2 Ln h => WR.no (k_tick0 (d := 4) h hz) (fun g' mi' ml' mr' hc => lw_tickx1 h.k2.1 hc) (by decide)) (fun g mi ml mr hg hM => rcE hM (fun hM => m_tick0 (d := 2) hg hM hz))
theorem ss_end (hA : AJ X B T K S P) (hK : K ≤ 3) (hB : B + w ≤ 12012) : OPc X (B + w) (T + 500) E K S P mL_end [.ref 2, .int x, .int y, .int z, .ref 297] mX5_end [.ref 292, .int x, .int y, .int z] := by
  obtain ⟨r, q⟩ := P
  obtain ⟨⟨N, t, D, ht, hJ⟩, -⟩ := id hA
  have hJ : JI X B N t D r q := hJ
  have hB0 : B ≤ 12012 := by omega
  have hR := hJ.rm hB0
  obtain ⟨C, hC1, hC, h0⟩ := hJ.cc
  by_cases hx : isX x ∧ isC r y
  · obtain ⟨e, he, rfl⟩ := isX_e hx.1
    obtain ⟨c, hc, rfl⟩ := isC_e h0 hC1 hC hx.2
    have hc12 : c < 12 := by omega
    have hCn := isC_n h0 hC1 hC hc
    have ho := hJ.okn he hc12
    by_cases hz : nI 0 ≤ z ∧ z ≤ nI 6
    · obtain ⟨u, -, hu, rfl⟩ := rngI (by decide) hz (by decide)
      have hu7 : u < 7 := by omega
      exact opV hA hK (by omega) (by omega) (v := r (eI e c u)) (fun g mi ml mr pm x1 x2 Ln h k l => WR.same ⟨pm, x1, x2, Ln, h⟩ (k_end1 (d := 8) h hJ h0 hC1 hC he hc hu7) (fun g' mi' ml' mr' hc => lw_end1 h.k2.1 hc) k l) (fun g mi ml mr hg hM => rcE hM (fun hM => m_end1 (d := 8) hg hM he hc12 hCn hu7))
    · exact opX hA hK (by omega) (by omega) (Or.inr rfl) (fun g mi ml mr pm x1 x2 Ln h => WR.no (k_end2 (d := 3) h h0 hC1 hC he hc hz) (fun g' mi' ml' mr' hc => lw_endx2 h.k2.1 hc) (by decide)) (fun g mi ml mr hg hM => rcE hM (fun hM => m_end2 (d := 8) hg hM ⟨isX_n he, hCn⟩ hz))
  · exact opX hA hK (by omega) (by omega) (Or.inl rfl) (fun g mi ml mr pm x1 x2 Ln h => WR.no (k_end0 (d := 2) h h0 hC1 hC hx) (fun g' mi' ml' mr' hc => lw_endx1 h.k2.1 hc) (by decide)) (fun g mi ml mr hg hM => rcE hM (fun hM => m_end0 (d := 8) hg hM hx))
theorem ss_callValue (hA : AJ X B T K S P) (hK : K ≤ 3) (hB : B + w ≤ 12012) : OPc X (B + w) (T + 500) E K S P mL_callValue [.ref 2, .int x, .int z, .ref 297] mX5_callValue [.ref 292, .int x, .int z] := by
  obtain ⟨r, q⟩ := P
  obtain ⟨⟨N, t, D, ht, hJ⟩, -⟩ := id hA
  have hJ : JI X B N t D r q := hJ
  have hB0 : B ≤ 12012 := by omega
  have hR := hJ.rm hB0
  obtain ⟨C, hC1, hC, h0⟩ := hJ.cc
  have hF := hJ.fs
  have h5 := hF.2.2.2.2.1
  have hN := hF.2.2.2.1
  by_cases hx : nI 0 ≤ x ∧ x ≤ r 5 - nI 1
  · by_cases hz : nI 0 ≤ z ∧ z ≤ nI 4
    · obtain ⟨u, -, hu, rfl⟩ := rngI (by decide) hz (by decide)
      have hu5 : u < 5 := by omega
      rw [h5] at hx
      obtain ⟨j, hj, rfl⟩ := rngM (by omega) hx
      exact opV hA hK (by omega) (by omega) (v := r (cI j u)) (fun g mi ml mr pm x1 x2 Ln h k l => WR.same ⟨pm, x1, x2, Ln, h⟩ (k_callV1 (d := 9) h hJ hj hu5) (fun g' mi' ml' mr' hc => lw_callValue1 h.k2.1 hc) k l) (fun g mi ml mr hg hM => rcE hM (fun hM => m_callV1 (d := 10) hg hM h5 hN hj hu5))
    · exact opX hA hK (by omega) (by omega) (Or.inr rfl) (fun g mi ml mr pm x1 x2 Ln h => WR.no (k_callV2 (d := 3) h hJ hx hz) (fun g' mi' ml' mr' hc => lw_callValuex2 h.k2.1 hc) (by decide)) (fun g mi ml mr hg hM => rcE hM (fun hM => m_callV2 (d := 10) hg hM hx hz))
  · exact opX hA hK (by omega) (by omega) (Or.inl rfl) (fun g mi ml mr pm x1 x2 Ln h => WR.no (k_callV0 (d := 4) h hJ hx) (fun g' mi' ml' mr' hc => lw_callValuex1 h.k2.1 hc) (by decide)) (fun g mi ml mr hg hM => rcE hM (fun hM => m_callV0 (d := 10) hg hM hx))
theorem ss_message (hA : AJ X B T K S P) (hK : K ≤ 3) (hB : B + w ≤ 12012) : OPc X (B + w) (T + 500) E K S P mL_message [.ref 2, .int x, .int z, .ref 297] mX5_message [.ref 292, .int x, .int z] := by
  obtain ⟨r, q⟩ := P
  obtain ⟨⟨N, t, D, ht, hJ⟩, -⟩ := id hA
  have hJ : JI X B N t D r q := hJ
  have hB0 : B ≤ 12012 := by omega
  have hR := hJ.rm hB0
  obtain ⟨C, hC1, hC, h0⟩ := hJ.cc
  obtain ⟨n, h11, hn32⟩ := id hR
  have hn : n ≤ 12500 := by omega
  by_cases hx : nI 0 ≤ x ∧ x ≤ r 11 - nI 1
  · by_cases hz : nI 0 ≤ z ∧ z ≤ nI 4
    · obtain ⟨u, -, hu, rfl⟩ := rngI (by decide) hz (by decide)
      have hu5 : u < 5 := by omega
      rw [h11] at hx
      obtain ⟨j, hj, rfl⟩ := rngM (by omega) hx
      exact opV hA hK (by omega) (by omega) (v := vM r q j u) (fun g mi ml mr pm x1 x2 Ln h k l => WR.same ⟨pm, x1, x2, Ln, h⟩ (k_msg1 (d := 9) h hJ h11 hn hj hu5) (fun g' mi' ml' mr' hc => lw_message1 h.k2.1 hc) k l) (fun g mi ml mr hg hM => rcE hM (fun hM => m_msg1 (d := 9) hg hM h11 hn hj hu5))
    · exact opX hA hK (by omega) (by omega) (Or.inr rfl) (fun g mi ml mr pm x1 x2 Ln h => WR.no (k_msg2 (d := 3) h h11 hn hx hz) (fun g' mi' ml' mr' hc => lw_messagex2 h.k2.1 hc) (by decide)) (fun g mi ml mr hg hM => rcE hM (fun hM => m_msg2 (d := 9) hg hM hx hz))
  · exact opX hA hK (by omega) (by omega) (Or.inl rfl) (fun g mi ml mr pm x1 x2 Ln h => WR.no (k_msg0 (d := 4) h h11 hn hx) (fun g' mi' ml' mr' hc => lw_messagex1 h.k2.1 hc) (by decide)) (fun g mi ml mr hg hM => rcE hM (fun hM => m_msg0 (d := 9) hg hM hx))
theorem ss_choice (hA : AJ X B T K S P) (hK : K ≤ 3) (hB : B + w ≤ 12012) : OPc X (B + w) (T + 500) E K S P mL_choice [.ref 2, .int x, .ref 297] mX5_choice [.ref 292, .int x] := by
  obtain ⟨r, q⟩ := P
  obtain ⟨⟨N, t, D, ht, hJ⟩, -⟩ := id hA
  have hJ : JI X B N t D r q := hJ
  have hB0 : B ≤ 12012 := by omega
  have hR := hJ.rm hB0
  obtain ⟨C, hC1, hC, h0⟩ := hJ.cc
  by_cases hx : isX x
  · obtain ⟨e, he, rfl⟩ := isX_e hx
    exact opV hA hK (by omega) (by omega) (v := mChosen r e (-1) C) (fun g mi ml mr pm x1 x2 Ln h k l => WR.same ⟨pm, x1, x2, Ln, h⟩ (k_choice1 (d := 8) h he h0 hC) (fun g' mi' ml' mr' hc => lw_choice1 h.k2.1 hc) k l) (fun g mi ml mr hg hM => rcE hM (fun hM => m_choice1 (d := 8) hg hM he h0 hC))
  · exact opX hA hK (by omega) (by omega) (Or.inl rfl) (fun g mi ml mr pm x1 x2 Ln h => WR.no (k_choice0 (d := 3) h hx) (fun g' mi' ml' mr' hc => lw_choicex1 h.k2.1 hc) (by decide)) (fun g mi ml mr hg hM => rcE hM (fun hM => m_choice0 (d := 8) hg hM hx))
theorem ss_count (hA : AJ X B T K S P) (hK : K ≤ 3) (hB : B + w ≤ 12012) : OPc X (B + w) (T + 500) E K S P mL_count [.ref 2, .int z, .ref 297] mX5_count [.ref 292, .int z] := by
  obtain ⟨r, q⟩ := P
  obtain ⟨⟨N, t, D, ht, hJ⟩, -⟩ := id hA
  have hJ : JI X B N t D r q := hJ
  have hB0 : B ≤ 12012 := by omega
  have hR := hJ.rm hB0
  obtain ⟨C, hC1, hC, h0⟩ := hJ.cc
  by_cases hz : nI 0 ≤ z ∧ z ≤ nI 4
  · obtain ⟨u, -, hu, rfl⟩ := rngI (by decide) hz (by decide)
    have hu5 : u < 5 := by omega
    exact opV hA hK (by omega) (by omega) (v := nI (cO r u C)) (fun g mi ml mr pm x1 x2 Ln h k l => WR.same ⟨pm, x1, x2, Ln, h⟩ (k_count1 (d := 7) h hJ h0 hC hu5) (fun g' mi' ml' mr' hc => lw_count1 h.k2.1 hc) k l) (fun g mi ml mr hg hM => rcE hM (fun hM => m_count1 (d := 7) hg hM hu5 h0 hC))
  · exact opX hA hK (by omega) (by omega) (Or.inl rfl) (fun g mi ml mr pm x1 x2 Ln h => WR.no (k_count0 (d := 3) h hz) (fun g' mi' ml' mr' hc => lw_countx1 h.k2.1 hc) (by decide)) (fun g mi ml mr hg hM => rcE hM (fun hM => m_count0 (d := 7) hg hM hz))
theorem ss_total (hA : AJ X B T K S P) (hK : K ≤ 3) (hB : B + w ≤ 12012) : OPc X (B + w) (T + 500) E K S P mL_total [.ref 2, .int z, .ref 297] mX5_total [.ref 292, .int z] := by
  obtain ⟨r, q⟩ := P
  obtain ⟨⟨N, t, D, ht, hJ⟩, -⟩ := id hA
  have hJ : JI X B N t D r q := hJ
  have hB0 : B ≤ 12012 := by omega
  have hR := hJ.rm hB0
  obtain ⟨C, hC1, hC, h0⟩ := hJ.cc
  by_cases hz : nI 0 ≤ z ∧ z ≤ nI 4
  · obtain ⟨u, -, hu, rfl⟩ := rngI (by decide) hz (by decide)
    have hu5 : u < 5 := by omega
    exact opV hA hK (by omega) (by omega) (v := r (6 + u)) (fun g mi ml mr pm x1 x2 Ln h k l => WR.same ⟨pm, x1, x2, Ln, h⟩ (k_total1 (d := 9) h hu5) (fun g' mi' ml' mr' hc => lw_total1 h.k2.1 hc) k l) (fun g mi ml mr hg hM => rcE hM (fun hM => m_total1 (d := 10) hg hM hu5))
  · exact opX hA hK (by omega) (by omega) (Or.inl rfl) (fun g mi ml mr pm x1 x2 Ln h => WR.no (k_total0 (d := 3) h hz) (fun g' mi' ml' mr' hc => lw_totalx1 h.k2.1 hc) (by decide)) (fun g mi ml mr hg hM => rcE hM (fun hM => m_total0 (d := 10) hg hM hz))
theorem ss_undo (hA : AJ X B T K S P) (hK : K ≤ 3) (hB : B + w ≤ 12012) : OPc X (B + w) (T + 500) E K S P mL_undo [.ref 2, .ref 297] mX5_undo [.ref 292] := by
  obtain ⟨r, q⟩ := P
  obtain ⟨⟨N, t, D, ht, hJ⟩, -⟩ := id hA
  have hJ : JI X B N t D r q := hJ
  have hB0 : B ≤ 12012 := by omega
  have hR := hJ.rm hB0
  obtain ⟨C, hC1, hC, h0⟩ := hJ.cc
  cases K with
  | zero =>
    exact opX hA hK (by omega) (by omega) (Or.inl rfl) (fun g mi ml mr pm x1 x2 Ln h => WR.no (k_undo0 (d := 4) h) (fun g' mi' ml' mr' hc => lw_undox1 h.k2.1 hc) (by decide)) (fun g mi ml mr hg hM => rcE hM (fun hM => m_undo0 (d := 10) hg hM))
  | succ K =>
    obtain ⟨N', t', D', ht', hJ'⟩ := hA.2 K (Nat.lt_succ_self K)
    have hN' : nC (S K).1 ≤ 40 := by rw [hJ'.nC]; exact hJ'.fs.2.2.2.1
    refine ⟨0, nI K, K, S, pUn r q (S K), by decide, fun g mi ml mr ⟨pm, x1, x2, Ln, h⟩ k l => ?_, fun g mi ml mr hg hM => rcE hM (fun hM => m_undo1 (d := 10) hg hM), ⟨⟨N', t', D', by omega, (hJ'.undo (r := r) (q := q)).mono (by omega)⟩, fun i hi => (hA.2 i (by omega)).mono (by omega) (by omega)⟩, by omega⟩
    exact WR.ok ((k_undo1 (d := 10) h.less).eqP hN' (fun j hj => cp_lt hj) (fun i hi => cp_lt hi)) (fun g' mi' ml' mr' hc => lw_undo1 h.k2.1 hc) k l
end LSE2
