/-! how the small machine's heap lies in the real one -/
def WS : List Cond := lw_tbl.filter goodWord
theorem WS_of {w : Cond} (h : inW w) : w ∈ WS := List.mem_filter.mpr h
def adr (ws : va_W) (sb a : Nat) : Option Nat := if a = 1 then some sb else if a = 0 then none else (ws[a - 2]?).map (fun q => q.1)
def VR (ws : va_W) (sb : Nat) (v w : Value) : Prop := match v with
  | .int x => w = .int x
  | .long x => w = .long x
  | .ref a => (a = 0 ∧ w = .null) ∨ ∃ q, adr ws sb a = some q ∧ w = .ref q
  | .retAddr _ => ∃ q, w = .ref q
  | _ => False
def OR (ws : va_W) (sb r : Nat) (o : Option Nat) : Prop := (r = 0 ∧ o = none) ∨ ∃ q, adr ws sb r = some q ∧ o = some q
def Ex (ws ws' : va_W) : Prop := ∀ (i q : Nat) (e : va_E), ws[i]? = some (q, e) → ∃ e', ws'[i]? = some (q, e')
theorem Ex.rf {ws : va_W} : Ex ws ws := fun _ _ e h => ⟨e, h⟩
theorem Ex.tr {a b c : va_W} (h1 : Ex a b) (h2 : Ex b c) : Ex a c := fun i q e h => by
  obtain ⟨e1, h1⟩ := h1 i q e h
  exact h2 i q e1 h1
theorem Ex.push {ws w2 : va_W} : Ex ws (ws ++ w2) := fun i q e h => ⟨e, by
  rw [List.getElem?_append_left (by
    rcases Nat.lt_or_ge i ws.length with k | k
    · exact k
    · rw [List.getElem?_eq_none k] at h; cases h)]
  exact h⟩
theorem Ex.set {ws : va_W} {j q : Nat} {e e' : va_E} (hj : ws[j]? = some (q, e)) : Ex ws (ws.set j (q, e')) := fun i q1 e1 h => by
  by_cases hij : j = i
  · subst hij
    rw [hj] at h
    cases h
    have hl : j < ws.length := by
      rcases Nat.lt_or_ge j ws.length with k | k
      · exact k
      · rw [List.getElem?_eq_none k] at hj; cases hj
    exact ⟨e', by rw [List.getElem?_set_self hl]⟩
  · exact ⟨e1, by rw [List.getElem?_set_ne hij]; exact h⟩
theorem adr.ext {ws ws' : va_W} {sb a q : Nat} (h : Ex ws ws') (ha : adr ws sb a = some q) : adr ws' sb a = some q := by
  unfold adr at ha ⊢
  by_cases h1 : a = 1
  · rw [if_pos h1] at ha ⊢; exact ha
  · rw [if_neg h1] at ha ⊢
    by_cases h0 : a = 0
    · rw [if_pos h0] at ha; cases ha
    · rw [if_neg h0] at ha ⊢
      cases hw : ws[a - 2]? with
      | none => rw [hw] at ha; cases ha
      | some x =>
        rw [hw] at ha
        obtain ⟨e', he⟩ := h (a - 2) x.1 x.2 hw
        rw [he]
        exact ha
theorem VR.ext {ws ws' : va_W} {sb : Nat} {v w : Value} (h : Ex ws ws') (hv : VR ws sb v w) : VR ws' sb v w := by
  cases v with
  | ref a =>
    rcases hv with hv | ⟨q, h1, h2⟩
    · exact Or.inl hv
    · exact Or.inr ⟨q, adr.ext h h1, h2⟩
  | _ => exact hv
theorem OR.ext {ws ws' : va_W} {sb r : Nat} {o : Option Nat} (h : Ex ws ws') (hv : OR ws sb r o) : OR ws' sb r o := by
  rcases hv with hv | ⟨q, h1, h2⟩
  · exact Or.inl hv
  · exact Or.inr ⟨q, adr.ext h h1, h2⟩
theorem VR.cat {ws : va_W} {sb : Nat} {v w : Value} (h : VR ws sb v w) : v.category = w.category := by
  cases v with
  | int x => cases h; rfl
  | long x => cases h; rfl
  | ref a =>
    rcases h with ⟨-, rfl⟩ | ⟨q, -, rfl⟩ <;> rfl
  | retAddr n =>
    obtain ⟨q, rfl⟩ := h
    rfl
  | _ => exact absurd h (fun h => h)
def FR (ws : va_W) (sb : Nat) : List Value → List Value → Prop
  | [], [] => True
  | v :: vs, w :: us => VR ws sb v w ∧ FR ws sb vs us
  | _, _ => False
theorem FR.ext {ws ws' : va_W} {sb : Nat} (h : Ex ws ws') : ∀ {vs us : List Value}, FR ws sb vs us → FR ws' sb vs us
  | [], [], _ => trivial
  | _ :: _, _ :: _, hv => ⟨hv.1.ext h, FR.ext h hv.2⟩
  | [], _ :: _, hv => hv
  | _ :: _, [], hv => hv
theorem FR.nil {ws : va_W} {sb : Nat} {us : List Value} (h : FR ws sb [] us) : us = [] := by
  cases us with
  | nil => rfl
  | cons a b => exact absurd h (fun h => h)
theorem FR.cons {ws : va_W} {sb : Nat} {v : Value} {vs us : List Value} (h : FR ws sb (v :: vs) us) : ∃ w us', us = w :: us' ∧ VR ws sb v w ∧ FR ws sb vs us' := by
  cases us with
  | nil => exact absurd h (fun h => h)
  | cons a b => exact ⟨a, b, rfl, h.1, h.2⟩
theorem FR.len {ws : va_W} {sb : Nat} : ∀ {vs us : List Value}, FR ws sb vs us → vs.length = us.length
  | [], [], _ => rfl
  | _ :: _, _ :: _, hv => congrArg (· + 1) (FR.len hv.2)
  | [], _ :: _, hv => absurd hv (fun h => h)
  | _ :: _, [], hv => absurd hv (fun h => h)
theorem FR.app {ws : va_W} {sb : Nat} : ∀ {vs us vs' us' : List Value}, FR ws sb vs us → FR ws sb vs' us' → FR ws sb (vs ++ vs') (us ++ us')
  | [], [], _, _, _, h => h
  | _ :: _, _ :: _, _, _, hv, h => ⟨hv.1, FR.app hv.2 h⟩
  | [], _ :: _, _, _, hv, _ => absurd hv (fun h => h)
  | _ :: _, [], _, _, hv, _ => absurd hv (fun h => h)
theorem FR.take {ws : va_W} {sb : Nat} : ∀ (k : Nat) {vs us : List Value}, FR ws sb vs us → FR ws sb (vs.take k) (us.take k)
  | 0, _, _, _ => by simp [FR]
  | _ + 1, [], [], _ => trivial
  | k + 1, _ :: _, _ :: _, hv => ⟨hv.1, FR.take k hv.2⟩
  | _ + 1, [], _ :: _, hv => absurd hv (fun h => h)
  | _ + 1, _ :: _, [], hv => absurd hv (fun h => h)
theorem FR.drop {ws : va_W} {sb : Nat} : ∀ (k : Nat) {vs us : List Value}, FR ws sb vs us → FR ws sb (vs.drop k) (us.drop k)
  | 0, _, _, h => h
  | _ + 1, [], [], _ => trivial
  | k + 1, _ :: _, _ :: _, hv => FR.drop k hv.2
  | _ + 1, [], _ :: _, hv => absurd hv (fun h => h)
  | _ + 1, _ :: _, [], hv => absurd hv (fun h => h)
theorem FR.rev {ws : va_W} {sb : Nat} : ∀ {vs us : List Value}, FR ws sb vs us → FR ws sb vs.reverse us.reverse
  | [], [], _ => trivial
  | _ :: _, _ :: _, hv => by
    rw [List.reverse_cons, List.reverse_cons]
    exact FR.app (FR.rev hv.2) ⟨hv.1, trivial⟩
  | [], _ :: _, hv => absurd hv (fun h => h)
  | _ :: _, [], hv => absurd hv (fun h => h)
theorem FR.cats {ws : va_W} {sb : Nat} : ∀ {vs us : List Value}, FR ws sb vs us → (us.map fun v => v.category).sum = catS vs
  | [], [], _ => rfl
  | v :: vs, w :: us, hv => by
    have h1 := FR.cats hv.2
    have h2 := hv.1.cat
    simp only [List.map_cons, List.sum_cons, catS]
    omega
  | [], _ :: _, hv => absurd hv (fun h => h)
  | _ :: _, [], hv => absurd hv (fun h => h)
def LR (ws : va_W) (sb nL : Nat) (L : List Value) (ls : Array Slot) : Prop := ls.size = nL ∧ L.length = nL ∧ lv_wf ls ∧ ∀ (i : Nat) (v : Value), L[i]? = some v → v ≠ .null → ∃ w : Value, VR ws sb v w ∧ ls[i]? = some (Slot.val w)
theorem LR.ext {ws ws' : va_W} {sb nL : Nat} {L : List Value} {ls : Array Slot} (h : Ex ws ws') (hl : LR ws sb nL L ls) : LR ws' sb nL L ls := ⟨hl.1, hl.2.1, hl.2.2.1, fun i v hi hv => by
  obtain ⟨w, h1, h2⟩ := hl.2.2.2 i v hi hv
  exact ⟨w, h1.ext h, h2⟩⟩
/-- all that the real locals hold, as the kit's rows want it -/
def lvL (ls : Array Slot) : List (Nat × Value) := (List.range ls.size).filterMap fun j => match ls[j]? with
  | some (Slot.val w) => some (j, w)
  | _ => none
theorem lvL_mem {ls : Array Slot} {j : Nat} {w : Value} : (j, w) ∈ lvL ls ↔ ls[j]? = some (Slot.val w) := by
  unfold lvL
  rw [List.mem_filterMap]
  constructor
  · rintro ⟨i, -, h⟩
    split at h
    · rename_i w' hw
      cases h
      exact hw
    · cases h
  · intro h
    refine ⟨j, List.mem_range.mpr (Array.getElem?_eq_some_iff.mp h).1, ?_⟩
    rw [h]
theorem lvL_has {ws : va_W} {sb nL : Nat} {L : List Value} {ls : Array Slot} (h : LR ws sb nL L ls) : lv_has ls nL (lvL ls) := ⟨h.1, h.2.2.1, fun q hq => lvL_mem.mp (show (q.1, q.2) ∈ lvL ls from hq)⟩
theorem okst_lt {L : List Value} {i : Nat} (h : okst L i = true) : i < L.length := by
  unfold okst at h
  rw [Bool.and_eq_true] at h
  exact of_decide_eq_true h.1
theorem okst_below {L : List Value} {i : Nat} (h : okst L (i + 1) = true) {v : Value} (hv : L[i]? = some v) : v.category = 1 := by
  unfold okst at h
  rw [Bool.and_eq_true] at h
  have h2 := h.2
  simp only [hv] at h2
  exact of_decide_eq_true h2
theorem LR.store {ws : va_W} {sb nL : Nat} {L : List Value} {ls ls' : Array Slot} {i : Nat} {v w : Value} (h : LR ws sb nL L ls) (ho : okst L i = true) (hv : VR ws sb v w) (h' : lv_has ls' nL ((i, w) :: (lvL ls).filter (fun q => !(q.1 == i) && !(q.1 + 1 == i && q.2.category == 2)))) : LR ws sb nL (L.set i v) ls' := by
  have hi := okst_lt ho
  refine ⟨h'.1, by rw [List.length_set]; exact h.2.1, h'.2.1, fun j u hj hu => ?_⟩
  by_cases hij : i = j
  · subst hij
    rw [List.getElem?_set_self hi] at hj
    cases hj
    exact ⟨w, hv, h'.2.2 (i, w) List.mem_cons_self⟩
  · rw [List.getElem?_set_ne hij] at hj
    obtain ⟨x, h1, h2⟩ := h.2.2.2 j u hj hu
    refine ⟨x, h1, h'.2.2 (j, x) (List.mem_cons_of_mem _ (List.mem_filter.mpr ⟨lvL_mem.mpr h2, ?_⟩))⟩
    have hji : (j == i) = false := by
      rw [beq_eq_false_iff_ne]
      exact fun e => hij e.symm
    by_cases hb : j + 1 = i
    · subst hb
      have hc := okst_below ho hj
      rw [h1.cat] at hc
      simp [hc]
    · have hb' : (j + 1 == i) = false := by rw [beq_eq_false_iff_ne]; exact hb
      simp [hji, hb']
theorem LR.storeL {ws : va_W} {sb nL : Nat} {L : List Value} {ls ls' : Array Slot} {i : Nat} {x : Int64} (h : LR ws sb nL L ls) (ho : okst L i = true) (ho2 : i + 1 < L.length) (h' : lv_has ls' nL ((i, Value.long x) :: (lvL ls).filter (fun q => !(q.1 == i) && (!(q.1 == i + 1) && !(q.1 + 1 == i && q.2.category == 2))))) : LR ws sb nL ((L.set i (.long x)).set (i + 1) .null) ls' := by
  have hi := okst_lt ho
  refine ⟨h'.1, by rw [List.length_set, List.length_set]; exact h.2.1, h'.2.1, fun j u hj hu => ?_⟩
  by_cases hij1 : i + 1 = j
  · subst hij1
    rw [List.getElem?_set_self (by rw [List.length_set]; exact ho2)] at hj
    cases hj
    exact absurd rfl hu
  rw [List.getElem?_set_ne hij1] at hj
  by_cases hij : i = j
  · subst hij
    rw [List.getElem?_set_self hi] at hj
    cases hj
    exact ⟨.long x, rfl, h'.2.2 (i, .long x) List.mem_cons_self⟩
  · rw [List.getElem?_set_ne hij] at hj
    obtain ⟨y, h1, h2⟩ := h.2.2.2 j u hj hu
    refine ⟨y, h1, h'.2.2 (j, y) (List.mem_cons_of_mem _ (List.mem_filter.mpr ⟨lvL_mem.mpr h2, ?_⟩))⟩
    have hji : (j == i) = false := by
      rw [beq_eq_false_iff_ne]
      exact fun e => hij e.symm
    have hji1 : (j == i + 1) = false := by
      rw [beq_eq_false_iff_ne]
      exact fun e => hij1 e.symm
    by_cases hb : j + 1 = i
    · subst hb
      have hc := okst_below ho hj
      rw [h1.cat] at hc
      simp [hc, hji1]
    · have hb' : (j + 1 == i) = false := by rw [beq_eq_false_iff_ne]; exact hb
      simp [hji, hb', hji1]
/-- a cell -/
def CR (tys : List (ClassId × FieldType)) (ws : va_W) (sb : Nat) (g : Gh) (mi : MI) (ml : ML) (mr : MR) (a : Nat) (e : va_E) : Prop :=
  (∃ (ci : Nat) (fs : List Value), g.1 a = ci + 1 ∧ ci < 6 ∧ e = .inr (ci, fs) ∧ fs.length = fN ci ∧ ∀ k, k < fN ci → ∃ w, fs[k]? = some w ∧ VR ws sb (fval (tyc (tyX ci k)) mi ml mr a k) w) ∨
  (∃ (cA : ClassId) (f : Nat → Int32) (ty : FieldType), ((g.1 a = 20 ∧ ty = .int) ∨ (g.1 a = 22 ∧ ty = .boolean)) ∧ e = .inl (cA, g.2.1 a, .inl f) ∧ (cA, ty) ∈ tys ∧ ∀ j, j < g.2.1 a → f j = mi a j) ∨
  (∃ (cA : ClassId) (f : Nat → Int64), g.1 a = 21 ∧ e = .inl (cA, g.2.1 a, .inr (.inl f)) ∧ (cA, FieldType.long) ∈ tys ∧ ∀ j, j < g.2.1 a → f j = ml a j) ∨
  (∃ (cA : ClassId) (f : Nat → Option Nat), (g.1 a = 23 ∨ g.1 a = 24 ∨ g.1 a = 25) ∧ e = .inl (cA, g.2.1 a, .inr (.inr (.inr (.inr f)))) ∧ (cA, FieldType.object (cN (elC (g.1 a)))) ∈ tys ∧ ∀ j, j < g.2.1 a → OR ws sb (mr a j) (f j))
theorem CR.ext {tys tys' : List (ClassId × FieldType)} {ws ws' : va_W} {sb : Nat} {g g' : Gh} {mi mi' : MI} {ml ml' : ML} {mr mr' : MR} {a : Nat} {e : va_E} (h : Ex ws ws') (ht : ∀ q ∈ tys, q ∈ tys') (h1 : g'.1 a = g.1 a) (h2 : g'.2.1 a = g.2.1 a) (hi : ∀ k, mi' a k = mi a k) (hl : ∀ k, ml' a k = ml a k) (hr : ∀ k, mr' a k = mr a k) (hc : CR tys ws sb g mi ml mr a e) : CR tys' ws' sb g' mi' ml' mr' a e := by
  rcases hc with ⟨ci, fs, p1, p2, p3, p4, p5⟩ | ⟨cA, f, ty, p1, p2, p3, p4⟩ | ⟨cA, f, p1, p2, p3, p4⟩ | ⟨cA, f, p1, p2, p3, p4⟩
  · refine Or.inl ⟨ci, fs, h1.trans p1, p2, p3, p4, fun k hk => ?_⟩
    obtain ⟨w, q1, q2⟩ := p5 k hk
    refine ⟨w, q1, ?_⟩
    have hv : fval (tyc (tyX ci k)) mi' ml' mr' a k = fval (tyc (tyX ci k)) mi ml mr a k := by unfold fval; rw [hi, hl, hr]
    rw [hv]
    exact q2.ext h
  · exact Or.inr (Or.inl ⟨cA, f, ty, by rw [h1]; exact p1, by rw [h2]; exact p2, ht _ p3, fun j hj => by rw [hi]; exact p4 j (by rw [← h2]; exact hj)⟩)
  · exact Or.inr (Or.inr (Or.inl ⟨cA, f, by rw [h1]; exact p1, by rw [h2]; exact p2, ht _ p3, fun j hj => by rw [hl]; exact p4 j (by rw [← h2]; exact hj)⟩))
  · exact Or.inr (Or.inr (Or.inr ⟨cA, f, by rw [h1]; exact p1, by rw [h2]; exact p2, by rw [h1]; exact ht _ p3, fun j hj => by rw [hr]; exact (p4 j (by rw [← h2]; exact hj)).ext h⟩))
/-- the heap; at address 1 the law's script -/
def HR (D : va_G) (A : Nat → Prop) (sb Ls : Nat) (xs : Nat → Int32) (tys : List (ClassId × FieldType)) (ws : va_W) (g : Gh) (mi : MI) (ml : ML) (mr : MR) (H : Heap) (s : State) : Prop :=
  va_P D vwCl ws H ∧ va_D A ws ∧ va_K D vwCl tys s ∧ g.2.2.1 = ws.length + 2 ∧ ∀ a, g.1 a ≠ 0 → (a = 1 ∧ g.1 a = 30 ∧ g.2.1 a = Ls ∧ ∀ j, mi a j = xs j) ∨ (2 ≤ a ∧ g.1 a < 30 ∧ ∃ q e, ws[a - 2]? = some (q, e) ∧ CR tys ws sb g mi ml mr a e)
section HRS
variable {D : va_G} {A : Nat → Prop} {sb Ls : Nat} {xs : Nat → Int32} {tys tys' : List (ClassId × FieldType)} {ws : va_W} {g : Gh} {mi : MI} {ml : ML} {mr : MR} {H H1 : Heap} {s : State}
theorem HR.cell (h : HR D A sb Ls xs tys ws g mi ml mr H s) {a k : Nat} (ha : g.1 a = k) (h0 : k ≠ 0) (h3 : k < 30) : 2 ≤ a ∧ ∃ q e, ws[a - 2]? = some (q, e) ∧ adr ws sb a = some q ∧ CR tys ws sb g mi ml mr a e := by
  rcases h.2.2.2.2 a (by rw [ha]; exact h0) with ⟨-, h1, -⟩ | ⟨h1, h2, q, e, h4, h5⟩
  · omega
  · refine ⟨h1, q, e, h4, ?_, h5⟩
    unfold adr
    rw [if_neg (by omega), if_neg (by omega), h4]
    rfl
theorem VR.addr {a q : Nat} {w : Value} (h : VR ws sb (.ref a) w) (ha : adr ws sb a = some q) : w = .ref q := by
  rcases h with ⟨h1, -⟩ | ⟨q', h1, h2⟩
  · subst h1
    unfold adr at ha
    cases ha
  · rw [ha] at h1
    cases h1
    exact h2
theorem CR.obj {a ci : Nat} {e : va_E} (hc : CR tys ws sb g mi ml mr a e) (ha : g.1 a = ci + 1) (h6 : ci < 6) : ∃ fs : List Value, e = .inr (ci, fs) ∧ fs.length = fN ci ∧ ∀ k, k < fN ci → ∃ w, fs[k]? = some w ∧ VR ws sb (fval (tyc (tyX ci k)) mi ml mr a k) w := by
  rcases hc with ⟨ci', fs, p1, p2, p3, p4, p5⟩ | ⟨cA, f, ty, p1, p2, p3, p4⟩ | ⟨cA, f, p1, p2, p3, p4⟩ | ⟨cA, f, p1, p2, p3, p4⟩
  · have : ci' = ci := by omega
    subst this
    exact ⟨fs, p3, p4, p5⟩
  · omega
  · omega
  · omega
theorem CR.arI {a k : Nat} {e : va_E} (hc : CR tys ws sb g mi ml mr a e) (ha : g.1 a = k) (hk : k = 20 ∨ k = 22) : ∃ (cA : ClassId) (f : Nat → Int32), e = .inl (cA, g.2.1 a, .inl f) ∧ (cA, if k = 20 then FieldType.int else FieldType.boolean) ∈ tys ∧ ∀ j, j < g.2.1 a → f j = mi a j := by
  rcases hc with ⟨ci', fs, p1, p2, p3, p4, p5⟩ | ⟨cA, f, ty, p1, p2, p3, p4⟩ | ⟨cA, f, p1, p2, p3, p4⟩ | ⟨cA, f, p1, p2, p3, p4⟩
  · omega
  · refine ⟨cA, f, p2, ?_, p4⟩
    rcases p1 with ⟨q1, q2⟩ | ⟨q1, q2⟩
    · rw [if_pos (by omega), ← q2]; exact p3
    · rw [if_neg (by omega), ← q2]; exact p3
  · omega
  · omega
theorem CR.arL {a : Nat} {e : va_E} (hc : CR tys ws sb g mi ml mr a e) (ha : g.1 a = 21) : ∃ (cA : ClassId) (f : Nat → Int64), e = .inl (cA, g.2.1 a, .inr (.inl f)) ∧ (cA, FieldType.long) ∈ tys ∧ ∀ j, j < g.2.1 a → f j = ml a j := by
  rcases hc with ⟨ci', fs, p1, p2, p3, p4, p5⟩ | ⟨cA, f, ty, p1, p2, p3, p4⟩ | ⟨cA, f, p1, p2, p3, p4⟩ | ⟨cA, f, p1, p2, p3, p4⟩
  · omega
  · omega
  · exact ⟨cA, f, p2, p3, p4⟩
  · omega
theorem CR.arR {a : Nat} {e : va_E} (hc : CR tys ws sb g mi ml mr a e) (ha : g.1 a = 23 ∨ g.1 a = 24 ∨ g.1 a = 25) : ∃ (cA : ClassId) (f : Nat → Option Nat), e = .inl (cA, g.2.1 a, .inr (.inr (.inr (.inr f)))) ∧ (cA, FieldType.object (cN (elC (g.1 a)))) ∈ tys ∧ ∀ j, j < g.2.1 a → OR ws sb (mr a j) (f j) := by
  rcases hc with ⟨ci', fs, p1, p2, p3, p4, p5⟩ | ⟨cA, f, ty, p1, p2, p3, p4⟩ | ⟨cA, f, p1, p2, p3, p4⟩ | ⟨cA, f, p1, p2, p3, p4⟩
  · omega
  · omega
  · omega
  · exact ⟨cA, f, p2, p3, p4⟩
/-- one cell's contents change -/
theorem HR.upd {mi' : MI} {ml' : ML} {mr' : MR} {a q : Nat} {e e' : va_E} (h : HR D A sb Ls xs tys ws g mi ml mr H s) (h2 : 2 ≤ a) (hw : ws[a - 2]? = some (q, e)) (hP : va_P D vwCl (ws.set (a - 2) (q, e')) H1) (hD : va_D A (ws.set (a - 2) (q, e')))
    (hi : ∀ b k, b ≠ a → mi' b k = mi b k) (hl : ∀ b k, b ≠ a → ml' b k = ml b k) (hr : ∀ b k, b ≠ a → mr' b k = mr b k) (hc : CR tys (ws.set (a - 2) (q, e')) sb g mi' ml' mr' a e') : HR D A sb Ls xs tys (ws.set (a - 2) (q, e')) g mi' ml' mr' H1 s := by
  refine ⟨hP, hD, h.2.2.1, by rw [List.length_set]; exact h.2.2.2.1, fun b hb => ?_⟩
  rcases h.2.2.2.2 b hb with ⟨p1, p2, p3, p4⟩ | ⟨p1, p2, q1, e1, p3, p4⟩
  · exact Or.inl ⟨p1, p2, p3, fun j => by rw [hi b j (by omega)]; exact p4 j⟩
  · refine Or.inr ⟨p1, p2, ?_⟩
    have hlt : a - 2 < ws.length := by
      rcases Nat.lt_or_ge (a - 2) ws.length with k | k
      · exact k
      · rw [List.getElem?_eq_none k] at hw; cases hw
    by_cases hba : b = a
    · subst hba
      exact ⟨q, e', by rw [List.getElem?_set_self hlt], hc⟩
    · exact ⟨q1, e1, by rw [List.getElem?_set_ne (by omega)]; exact p3, p4.ext (Ex.set hw) (fun _ h => h) rfl rfl (fun k => hi b k hba) (fun k => hl b k hba) (fun k => hr b k hba)⟩
/-- a new cell -/
theorem HR.new {a q kd n c0 s0 : Nat} {e : va_E} (h : HR D A sb Ls xs tys ws g mi ml mr H s) (ha : g.2.2.1 = a) (ht : ∀ x ∈ tys, x ∈ tys') (hK : va_K D vwCl tys' s) (hP : va_P D vwCl (ws ++ [(q, e)]) H1) (hD : va_D A (ws ++ [(q, e)])) (hkd : kd < 30) (hz : g.1 a = 0 ∨ True)
    (hc : CR tys' (ws ++ [(q, e)]) sb (newG g kd n c0 s0) (z2 mi a 0) (z2 ml a 0) (z2 mr a 0) a e) : HR D A sb Ls xs tys' (ws ++ [(q, e)]) (newG g kd n c0 s0) (z2 mi a 0) (z2 ml a 0) (z2 mr a 0) H1 s := by
  have hn := h.2.2.2.1
  refine ⟨hP, hD, hK, by show g.2.2.1 + 1 = _; rw [List.length_append, hn]; rfl, fun b hb => ?_⟩
  subst ha
  by_cases hba : b = g.2.2.1
  · subst hba
    refine Or.inr ⟨by omega, ?_, q, e, ?_, hc⟩
    · show u1 g.1 g.2.2.1 kd g.2.2.1 < 30
      unfold u1
      rw [if_pos rfl]
      exact hkd
    · rw [hn, show ws.length + 2 - 2 = ws.length by omega, List.getElem?_append_right (Nat.le_refl _), Nat.sub_self]
      rfl
  · have e1 : (newG g kd n c0 s0).1 b = g.1 b := by show u1 g.1 g.2.2.1 kd b = _; unfold u1; rw [if_neg hba]
    have e2 : (newG g kd n c0 s0).2.1 b = g.2.1 b := by show u1 g.2.1 g.2.2.1 n b = _; unfold u1; rw [if_neg hba]
    rw [e1] at hb
    have z : ∀ {α : Type} (f : Nat → Nat → α) (v : α) (k : Nat), z2 f g.2.2.1 v b k = f b k := fun f v k => by unfold z2; rw [if_neg hba]
    rcases h.2.2.2.2 b hb with ⟨p1, p2, p3, p4⟩ | ⟨p1, p2, q1, e3, p3, p4⟩
    · exact Or.inl ⟨p1, by rw [e1]; exact p2, by rw [e2]; exact p3, fun j => by rw [z]; exact p4 j⟩
    · have hlt : b - 2 < ws.length := by
        rcases Nat.lt_or_ge (b - 2) ws.length with k | k
        · exact k
        · rw [List.getElem?_eq_none k] at p3; cases p3
      exact Or.inr ⟨p1, by rw [e1]; exact p2, q1, e3, by rw [List.getElem?_append_left hlt]; exact p3, p4.ext Ex.push ht e1 e2 (fun k => z mi 0 k) (fun k => z ml 0 k) (fun k => z mr 0 k)⟩
end HRS
