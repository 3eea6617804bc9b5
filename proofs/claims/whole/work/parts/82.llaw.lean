/-! the law: class and reference side by side -/
def LLs (L : Nat) (xs : Nat → Int32) (E K : Nat) (S : Nat → PS) (P : PS) (g : Gh) (mi : MI) (ml : ML) (mr : MR) : Prop := TGx E K S P g mi mr ∧ (MG g mr ∧ MS K S P mi ml) ∧ (g.1 1 = 30 ∧ g.2.1 1 = L ∧ ∀ j, mi 1 j = xs j) ∧ g.1 297 = 21 ∧ g.2.1 297 = 1
/-- one case of the law's loop is done -/
def LLb (pc L : Nat) (xs : Nat → Int32) (i E K : Nat) (S : Nat → PS) (P : PS) (b5 b6 : Value) (g : Gh) (mi : MI) (ml : ML) (mr : MR) : Prop := ∃ a5 a6 g' mi' ml' mr', R 12 mL_law pc [.ref 1, .ref 2, .ref 292, .ref 297, .int (nI i), b5, b6] [] g mi ml mr = R 12 mL_law 1600 [.ref 1, .ref 2, .ref 292, .ref 297, .int (nI i), a5, a6] [] g' mi' ml' mr' ∧ LLs L xs E K S P g' mi' ml' mr'
section LLAW
variable {s off N n a1 a2 d E K L code : Nat} {S : Nat → PS} {P : PS} {g g' : Gh} {mi mi' mi2 : MI} {ml ml' ml2 : ML} {mr mr' : MR} {v : Int32} {xs : Nat → Int32} {r : Nat → Int32} {q : Nat → Int64} {pm x1 x2 Ln : Nat → Nat} {x : Int64}
theorem lg_self : lg_cmp x x = nI 0 := (lg_cmp_eq x x).mpr rfl
theorem CS.fm (h : CS s off N n a1 a2 L r q g mi mr) (hs : 4 ≤ s) (hs2 : s + 72 ≤ 292) (hm : ∀ a, ¬ (a = 292 ∨ a = 293 ∨ a = 295) → mi' a = mi a) : CS s off N n a1 a2 L r q g mi' mr := by
  have h3 := h.2.1.2.2.1
  have g1 : ¬ (a1 = 292 ∨ a1 = 293 ∨ a1 = 295) := by have := h3.1; omega
  have g2 : ¬ (a2 = 292 ∨ a2 = 293 ∨ a2 = 295) := by have := h3.2.1; omega
  exact h.move (fun a _ _ => ⟨rfl, rfl⟩) (fun a ha hb _ _ => hm a (by omega)) (fun a f _ _ _ => rfl) h.2.1 (Nat.le_refl L) (fun i _ => by rw [hm a1 g1]) (fun i _ => by rw [hm a2 g2])
theorem TG.fm (h : TG E K S P pm x1 x2 Ln g mi mr) (hm : ∀ a, ¬ (a = 292 ∨ a = 293 ∨ a = 295) → mi' a = mi a) : TG E K S P pm x1 x2 Ln g mi' mr := by
  obtain ⟨⟨t1, t2, t3, t4⟩, ⟨p1, p2⟩, ⟨t5, t6⟩, t7, t8⟩ := h
  have ab : ∀ k, k < 4 → 4 ≤ Ad k ∧ Ad k + 72 ≤ 292 := fun k hk => by unfold Ad; omega
  refine ⟨⟨t1, t2, by rw [hm 2 (by decide)]; exact t3, t4⟩, ⟨p1, p2⟩, ⟨fun k hk => ?_, t6⟩, fun i hi => ?_, ?_⟩
  · obtain ⟨d1, d2, d3⟩ := t5 k hk
    have := ab k hk
    refine ⟨d1, d2, fun e c he hc => ?_⟩
    rw [hm (eA (Ad k) e c) (by unfold eA; omega)]
    exact d3 e c he hc
  · have := ab (pm i) (p1 i (by omega))
    exact (t7 i hi).fm this.1 this.2 hm
  · have := ab (pm 3) (p1 3 (by decide))
    exact t8.fm this.1 this.2 hm
theorem OW.keep (h : OW g mi ml mr g' mi' ml' mr') (hg : MG g mr) (hM : MS K S P mi ml) (s1 : g.1 1 = 30) (s2 : g.2.1 1 = L) (s3 : ∀ j, mi 1 j = xs j) (o1 : g.1 297 = 21) (o2 : g.2.1 297 = 1) : MG g' mr' ∧ MS K S P mi' ml' ∧ (g'.1 1 = 30 ∧ g'.2.1 1 = L ∧ ∀ j, mi' 1 j = xs j) ∧ g'.1 297 = 21 ∧ g'.2.1 297 = 1 := by
  obtain ⟨h1, h2, h3⟩ := h
  obtain ⟨w1, -, -, w4, w5⟩ := h1 1 (by decide)
  obtain ⟨a1, a2, a3, a4, a5⟩ := h1 292 (by decide)
  obtain ⟨b1, b2, b3, b4, b5⟩ := h1 293 (by decide)
  obtain ⟨c1, c2, c3, c4, c5⟩ := h1 294 (by decide)
  obtain ⟨d1, d2, d3, d4, d5⟩ := h1 295 (by decide)
  obtain ⟨e1, e2, e3, e4, e5⟩ := h1 296 (by decide)
  refine ⟨?_, ?_, ⟨w4.trans s1, w5.trans s2, fun j => by rw [w1]; exact s3 j⟩, h2.trans o1, h3.trans o2⟩
  · unfold MG
    rw [a3, a4, b4, b5, c4, c5, d4, d5, e4, e5]
    exact hg
  · unfold MS
    rw [b1, c2, a1, d1, e2]
    exact hM
theorem thrown_ (hg : MG g mr) : callT (d + 1) mX5_thrown [.ref 292] (g, mi, ml, mr) = some (.inl (some (.int (mi 292 5))), g, mi, ml, mr) := by
  have h1 := hg.1
  rw [eX5_thrown]
  simp only [wX5_thrown_0, wX5_thrown_1, wX5_thrown_4, h1]
theorem ls_out (e3 : code = 0 → ml' 297 0 = v.toInt64) (f4 : FM mi' ml' mi2 ml2) : code = 0 → ml2 297 0 = v.toInt64 := fun h => by
  rw [f4.2 297 (by decide)]
  exact e3 h
theorem ls_end (e2 : TGx E K S P g' mi' mr') (hg' : MG g' mr') (f3 : MS K S P mi2 ml2) (f4 : FM mi' ml' mi2 ml2) (t1 : g'.1 1 = 30) (t2 : g'.2.1 1 = L) (t3 : ∀ j, mi' 1 j = xs j) (o3 : g'.1 297 = 21) (o4 : g'.2.1 297 = 1) : LLs L xs E K S P g' mi2 ml2 mr' := by
  obtain ⟨pm, x1, x2, Ln, h⟩ := e2
  exact ⟨⟨pm, x1, x2, Ln, h.fm f4.1⟩, ⟨hg', f3⟩, ⟨t1, t2, fun j => by rw [f4.1 1 (by decide)]; exact t3 j⟩, o3, o4⟩
end LLAW
