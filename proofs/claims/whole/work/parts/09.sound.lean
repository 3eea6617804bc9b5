/-! the small machine is the real one, instruction by instruction -/
def xNm : List String := ["java/lang/RuntimeException", "java/lang/Exception"]
def xEs : List String := ["java/lang/IllegalArgumentException", "java/lang/IndexOutOfBoundsException", "java/lang/IllegalStateException"]
def Bad : List Cond := (vx_atS RX4 28 "java/lang/IllegalArgumentException" xNm ++ (vx_atS RX4 150 "java/lang/IndexOutOfBoundsException" xNm ++ vx_atS RX4 75 "java/lang/IllegalStateException" xNm)).filter (fun w => !goodWord w)
def Wd (A : Nat → Prop) (U : State) : Prop :=
  vx_Zq Bundle.tN "UNASSIGNED_STACK" Bundle.steD A U U.heap ∧ vx_Zq Bundle.tN "SUPPRESSED_SENTINEL" Bundle.listD A U U.heap ∧ (∀ e ∈ sT, ∃ sa, vk_R (cN e.1) e.2.1 e.2.2 sa U) ∧ (∀ k, (k = 23 ∨ k = 24 ∨ k = 25) → va_AO (cN (elC k)) U) ∧
  (∀ e ∈ cT, e.2.2.1 = 3 → va_Nw (.methodLinkNest (cN e.1) e.2.1 (mY e.2.2.2.1) "TrunkGroup") U) ∧ (∀ w ∈ Bad, ((∃ x, w = .declares x) ∨ ∃ C T, w = .castable C T) ∧ va_Nw w U) ∧ (∀ E ∈ xEs, va_Nw (.castable E E) U) ∧ (∀ E ∈ xEs, ∀ E' ∈ xEs, E ≠ E' → va_Nc E E' U)
theorem Wd.to {A : Nat → Prop} {s U : State} {locs : List Loc} (h : Wd A s) (hW : s.WarmedH U.vm) (hS : va_S A s.heap U.heap locs) : Wd A U := by
  obtain ⟨h1, h2, h3, h4, h5, h6, h7, h8⟩ := h
  refine ⟨(h1.moved hW.alike).kept hS.2.1, (h2.moved hW.alike).kept hS.2.1, fun e he => ?_, fun k hk => (h4 k hk).moved hW.alike, fun e he h9 => (h5 e he h9).warmM hW, fun w hw => ?_, fun E hE => (h7 E hE).warmC hW, fun E hE E' hE' hn => (h8 E hE E' hE' hn).moved hW.alike⟩
  · obtain ⟨sa, hs⟩ := h3 e he
    exact ⟨sa, hs.warm hW⟩
  · rcases h6 w hw with ⟨⟨x, rfl⟩ | ⟨C, T, rfl⟩, hx⟩
    · exact ⟨Or.inl ⟨x, rfl⟩, hx.warmD hW⟩
    · exact ⟨Or.inr ⟨C, T, rfl⟩, hx.warmC hW⟩
theorem uws_in : ∀ ci, ci < 6 → ∀ w ∈ u_ws (cN ci) (TX ci) (fN ci), w ∈ WS := by
  intro ci hci w hw
  match ci, hci, hw with
  | 0, _, hw => exact WS_of (iX0 w hw)
  | 1, _, hw => exact WS_of (iX1 w hw)
  | 2, _, hw => exact WS_of (iX2 w hw)
  | 3, _, hw => exact WS_of (iX3 w hw)
  | 4, _, hw => exact WS_of (iX4 w hw)
  | 5, _, hw => exact WS_of (iX5 w hw)
theorem tyX_ok : ∀ ci, ci < 6 → ∀ k, k < fN ci → parseFieldDescriptor (TX ci k).2.2.1 = some (tyX ci k) := by
  intro ci hci
  match ci, hci with
  | 0, _ => exact tyX0_ok
  | 1, _ => exact tyX1_ok
  | 2, _ => exact tyX2_ok
  | 3, _ => exact tyX3_ok
  | 4, _ => exact tyX4_ok
  | 5, _ => exact tyX5_ok
theorem nmX_ok : ∀ ci, ci < 6 → ∀ a, a < fN ci → ∀ b, b < fN ci → a ≠ b → (TX ci a).2.1 ≠ (TX ci b).2.1 := by
  intro ci hci
  match ci, hci with
  | 0, _ => exact nmX0
  | 1, _ => exact nmX1
  | 2, _ => exact nmX2
  | 3, _ => exact nmX3
  | 4, _ => exact nmX4
  | 5, _ => exact nmX5
theorem vwCl_at : ∀ ci, ci < 6 → vwCl[ci]? = some (cN ci, TX ci, fN ci) := by
  intro ci hci
  match ci, hci with
  | 0, _ => rfl
  | 1, _ => rfl
  | 2, _ => rfl
  | 3, _ => rfl
  | 4, _ => rfl
  | 5, _ => rfl
def Cx (p : Program) (l : Launch) (R : Room) (s : State) (m : MethodId) (args : Array Value) (meth : Method) (c : Code) (A : Nat → Prop) (sb Ls : Nat) (xs : Nat → Int32) (M : Mth) (d C0 S0 C1 S1 : Nat) : Prop :=
  p.tables.exec = Jvm.exec ∧ c.code = mB M ∧ c.maxLocals = mL M ∧ s.vm.findClass (cN (mO M)) = some m.cls ∧ (∀ w ∈ WS, w.before args s = true) ∧ meth.locks = false ∧ ((mY M).name = "<init>" → meth.name = "<init>") ∧ meth.sig.returnType = mR M ∧ ((isL M = true ∧ mH M = []) ∨ c.exceptionTable.toList = tableOf (mH M)) ∧ Wd A s ∧ l.stackTraces = false ∧ d ≤ R.frames ∧ 30 * d + 100 ≤ R.locals ∧ C0 ≤ C1 + R.cells ∧ S0 ≤ S1 + R.slots ∧ (∀ q, s.heap.size ≤ q → A q) ∧ (isL M = true → va_X sb Ls xs s s.heap ∧ sb < s.heap.size ∧ ¬ A sb)
def Sat (p : Program) (l : Launch) (e : Env) (R : Room) (s : State) (m : MethodId) (args : Array Value) (below : List Frame) (meth : Method) (c : Code) (Q : State → Prop) (D : va_G) (A : Nat → Prop) (sb Ls : Nat) (xs : Nat → Int32) (w0 : va_W) (nL C0 S0 C1 S1 : Nat) (cf : Cf) : Prop :=
  ∀ (tys : List (ClassId × FieldType)) (ws : va_W) (H : Heap) (locs : List Loc) (ls : Array Slot) (st : List Value), HR D A sb Ls xs tys ws cf.2.2.2.1 cf.2.2.2.2.1 cf.2.2.2.2.2.1 cf.2.2.2.2.2.2 H s → LR ws sb nL cf.2.1 ls → FR ws sb cf.2.2.1 st → va_S A s.heap H locs → Ex w0 ws →
    (C1 ≤ cf.2.2.2.1.2.2.2.1 ∧ cf.2.2.2.1.2.2.2.1 ≤ C0) ∧ (S1 ≤ cf.2.2.2.1.2.2.2.2 ∧ cf.2.2.2.1.2.2.2.2 ≤ S0) → W p l e R s m args below meth c H locs (C0 - cf.2.2.2.1.2.2.2.1) (S0 - cf.2.2.2.1.2.2.2.2) Q (F0 m cf.1 ls st)
section SND
variable {p : Program} {l : Launch} {e : Env} {R : Room} {s : State} {m : MethodId} {args : Array Value} {below : List Frame} {meth : Method} {c : Code} {Q : State → Prop}
variable {D : va_G} {A : Nat → Prop} {sb Ls : Nat} {xs : Nat → Int32} {w0 : va_W} {M : Mth} {d C0 S0 C1 S1 : Nat} {cf' : Cf} {pc : Nat} {L S : List Value} {g : Gh} {mi : MI} {ml : ML} {mr : MR}
theorem nxt_inj {pc : Nat} {L S : List Value} {h : Hh} {cf : Cf} (e : nxt pc L S h = some (.inl cf)) : cf = (pc, L, S, h) := by
  unfold nxt at e
  cases e
  rfl
theorem VR.int {ws : va_W} {x : Int32} {w : Value} (h : VR ws sb (.int x) w) : w = .int x := h
theorem VR.lng {ws : va_W} {x : Int64} {w : Value} (h : VR ws sb (.long x) w) : w = .long x := h
theorem s_ld {chk : Value → Bool} {k n : Nat}
    (hk : ∀ {H : Heap} {locs : List Loc} {cells slots : Nat} {ls : Array Slot} {rest : List Value} {ws : va_W} {v w : Value}, chk v = true → VR ws sb v w → ls[k]? = some (Slot.val w) → W p l e R s m args below meth c H locs cells slots Q (F0 m (pc + n) ls (w :: rest)) → W p l e R s m args below meth c H locs cells slots Q (F0 m pc ls rest))
    (hn : chk .null = false) (h : i_ld chk k n pc L S (g, mi, ml, mr) = some (.inl cf')) (kk : Sat p l e R s m args below meth c Q D A sb Ls xs w0 (mL M) C0 S0 C1 S1 cf') : Sat p l e R s m args below meth c Q D A sb Ls xs w0 (mL M) C0 S0 C1 S1 (pc, L, S, g, mi, ml, mr) := by
  unfold i_ld at h
  split at h
  · rename_i v hv
    cases hc : chk v with
    | false => rw [hc] at h; cases h
    | true =>
      rw [hc] at h
      have := nxt_inj h
      subst this
      intro tys ws H locs ls st hH hL hS hV hE hb
      obtain ⟨w, h1, h2⟩ := hL.2.2.2 k v hv (fun e => by rw [e, hn] at hc; cases hc)
      exact hk hc h1 h2 (kk tys ws H locs ls (w :: st) hH hL ⟨h1, hS⟩ hV hE hb)
  · cases h
theorem s_st {chk : Value → Bool} {k n : Nat}
    (hk : ∀ {H : Heap} {locs : List Loc} {cells slots : Nat} {ls : Array Slot} {rest : List Value} {ws : va_W} {v w : Value}, chk v = true → VR ws sb v w → k < mL M → lv_has ls (mL M) (lvL ls) → (∀ ls' : Array Slot, lv_has ls' (mL M) ((k, w) :: (lvL ls).filter (fun q => !(q.1 == k) && !(q.1 + 1 == k && q.2.category == 2))) → W p l e R s m args below meth c H locs cells slots Q (F0 m (pc + n) ls' rest)) → W p l e R s m args below meth c H locs cells slots Q (F0 m pc ls (w :: rest)))
    (h : i_st chk k n pc L S (g, mi, ml, mr) = some (.inl cf')) (kk : Sat p l e R s m args below meth c Q D A sb Ls xs w0 (mL M) C0 S0 C1 S1 cf') : Sat p l e R s m args below meth c Q D A sb Ls xs w0 (mL M) C0 S0 C1 S1 (pc, L, S, g, mi, ml, mr) := by
  unfold i_st at h
  split at h
  · rename_i v S'
    cases hc : (chk v && okst L k) with
    | false => rw [hc] at h; cases h
    | true =>
      rw [hc] at h
      have := nxt_inj h
      subst this
      rw [Bool.and_eq_true] at hc
      intro tys ws H locs ls st hH hL hS hV hE hb
      obtain ⟨w, st', rfl, h1, h2⟩ := FR.cons hS
      have hlt : k < mL M := by rw [← hL.2.1]; exact okst_lt hc.2
      exact hk hc.1 h1 hlt (lvL_has hL) (fun ls' hl' => kk tys ws H locs ls' st' hH (hL.store hc.2 h1 hl') h2 hV hE hb)
  · cases h
theorem s_stL {k n : Nat}
    (hk : ∀ {H : Heap} {locs : List Loc} {cells slots : Nat} {ls : Array Slot} {rest : List Value} {x : Int64}, k + 1 < mL M → lv_has ls (mL M) (lvL ls) → (∀ ls' : Array Slot, lv_has ls' (mL M) ((k, Value.long x) :: (lvL ls).filter (fun q => !(q.1 == k) && (!(q.1 == k + 1) && !(q.1 + 1 == k && q.2.category == 2)))) → W p l e R s m args below meth c H locs cells slots Q (F0 m (pc + n) ls' rest)) → W p l e R s m args below meth c H locs cells slots Q (F0 m pc ls (.long x :: rest)))
    (h : i_stL k n pc L S (g, mi, ml, mr) = some (.inl cf')) (kk : Sat p l e R s m args below meth c Q D A sb Ls xs w0 (mL M) C0 S0 C1 S1 cf') : Sat p l e R s m args below meth c Q D A sb Ls xs w0 (mL M) C0 S0 C1 S1 (pc, L, S, g, mi, ml, mr) := by
  unfold i_stL at h
  split at h
  · rename_i x S'
    cases hc : (okst L k && decide (k + 1 < L.length)) with
    | false => rw [hc] at h; cases h
    | true =>
      rw [hc] at h
      have := nxt_inj h
      subst this
      rw [Bool.and_eq_true] at hc
      have h9 := of_decide_eq_true hc.2
      intro tys ws H locs ls st hH hL hS hV hE hb
      obtain ⟨w, st', rfl, h1, h2⟩ := FR.cons hS
      cases h1.lng
      exact hk (by rw [← hL.2.1]; exact h9) (lvL_has hL) (fun ls' hl' => kk tys ws H locs ls' st' hH (hL.storeL hc.1 h9 hl') h2 hV hE hb)
  · cases h
theorem s_opI {f : Int32 → Int32 → Int32}
    (hk : ∀ {H : Heap} {locs : List Loc} {cells slots : Nat} {ls : Array Slot} {rest : List Value} {x y : Int32}, W p l e R s m args below meth c H locs cells slots Q (F0 m (pc + 1) ls (.int (f x y) :: rest)) → W p l e R s m args below meth c H locs cells slots Q (F0 m pc ls (.int y :: .int x :: rest)))
    (h : i_opI f pc L S (g, mi, ml, mr) = some (.inl cf')) (kk : Sat p l e R s m args below meth c Q D A sb Ls xs w0 (mL M) C0 S0 C1 S1 cf') : Sat p l e R s m args below meth c Q D A sb Ls xs w0 (mL M) C0 S0 C1 S1 (pc, L, S, g, mi, ml, mr) := by
  unfold i_opI at h
  split at h
  · have := nxt_inj h
    subst this
    intro tys ws H locs ls st hH hL hS hV hE hb
    obtain ⟨w1, st1, rfl, h1, hS1⟩ := FR.cons hS
    obtain ⟨w2, st2, rfl, h2, hS2⟩ := FR.cons hS1
    cases h1.int
    cases h2.int
    exact hk (kk tys ws H locs ls _ hH hL ⟨rfl, hS2⟩ hV hE hb)
  · cases h
theorem s_opL {f : Int64 → Int64 → Int64}
    (hk : ∀ {H : Heap} {locs : List Loc} {cells slots : Nat} {ls : Array Slot} {rest : List Value} {x y : Int64}, W p l e R s m args below meth c H locs cells slots Q (F0 m (pc + 1) ls (.long (f x y) :: rest)) → W p l e R s m args below meth c H locs cells slots Q (F0 m pc ls (.long y :: .long x :: rest)))
    (h : i_opL f pc L S (g, mi, ml, mr) = some (.inl cf')) (kk : Sat p l e R s m args below meth c Q D A sb Ls xs w0 (mL M) C0 S0 C1 S1 cf') : Sat p l e R s m args below meth c Q D A sb Ls xs w0 (mL M) C0 S0 C1 S1 (pc, L, S, g, mi, ml, mr) := by
  unfold i_opL at h
  split at h
  · have := nxt_inj h
    subst this
    intro tys ws H locs ls st hH hL hS hV hE hb
    obtain ⟨w1, st1, rfl, h1, hS1⟩ := FR.cons hS
    obtain ⟨w2, st2, rfl, h2, hS2⟩ := FR.cons hS1
    cases h1.lng
    cases h2.lng
    exact hk (kk tys ws H locs ls _ hH hL ⟨rfl, hS2⟩ hV hE hb)
  · cases h
theorem s_dvI {f : Int32 → Int32 → Int32}
    (hk : ∀ {H : Heap} {locs : List Loc} {cells slots : Nat} {ls : Array Slot} {rest : List Value} {x y : Int32}, ¬ y = 0 → W p l e R s m args below meth c H locs cells slots Q (F0 m (pc + 1) ls (.int (f x y) :: rest)) → W p l e R s m args below meth c H locs cells slots Q (F0 m pc ls (.int y :: .int x :: rest)))
    (h : i_dvI f pc L S (g, mi, ml, mr) = some (.inl cf')) (kk : Sat p l e R s m args below meth c Q D A sb Ls xs w0 (mL M) C0 S0 C1 S1 cf') : Sat p l e R s m args below meth c Q D A sb Ls xs w0 (mL M) C0 S0 C1 S1 (pc, L, S, g, mi, ml, mr) := by
  unfold i_dvI at h
  split at h
  · rename_i y x S'
    by_cases hy : y = 0
    · rw [if_pos hy] at h; cases h
    rw [if_neg hy] at h
    have := nxt_inj h
    subst this
    intro tys ws H locs ls st hH hL hS hV hE hb
    obtain ⟨w1, st1, rfl, h1, hS1⟩ := FR.cons hS
    obtain ⟨w2, st2, rfl, h2, hS2⟩ := FR.cons hS1
    cases h1.int
    cases h2.int
    exact hk hy (kk tys ws H locs ls _ hH hL ⟨rfl, hS2⟩ hV hE hb)
  · cases h
theorem s_dvL {f : Int64 → Int64 → Int64}
    (hk : ∀ {H : Heap} {locs : List Loc} {cells slots : Nat} {ls : Array Slot} {rest : List Value} {x y : Int64}, ¬ y = 0 → W p l e R s m args below meth c H locs cells slots Q (F0 m (pc + 1) ls (.long (f x y) :: rest)) → W p l e R s m args below meth c H locs cells slots Q (F0 m pc ls (.long y :: .long x :: rest)))
    (h : i_dvL f pc L S (g, mi, ml, mr) = some (.inl cf')) (kk : Sat p l e R s m args below meth c Q D A sb Ls xs w0 (mL M) C0 S0 C1 S1 cf') : Sat p l e R s m args below meth c Q D A sb Ls xs w0 (mL M) C0 S0 C1 S1 (pc, L, S, g, mi, ml, mr) := by
  unfold i_dvL at h
  split at h
  · rename_i y x S'
    by_cases hy : y = 0
    · rw [if_pos hy] at h; cases h
    rw [if_neg hy] at h
    have := nxt_inj h
    subst this
    intro tys ws H locs ls st hH hL hS hV hE hb
    obtain ⟨w1, st1, rfl, h1, hS1⟩ := FR.cons hS
    obtain ⟨w2, st2, rfl, h2, hS2⟩ := FR.cons hS1
    cases h1.lng
    cases h2.lng
    exact hk hy (kk tys ws H locs ls _ hH hL ⟨rfl, hS2⟩ hV hE hb)
  · cases h
theorem s_push {n : Nat} {v : Value} {o : Option (Cf ⊕ Res)} (hv : ∀ ws : va_W, VR ws sb v v)
    (hk : ∀ {H : Heap} {locs : List Loc} {cells slots : Nat} {ls : Array Slot} {rest : List Value}, W p l e R s m args below meth c H locs cells slots Q (F0 m (pc + n) ls (v :: rest)) → W p l e R s m args below meth c H locs cells slots Q (F0 m pc ls rest))
    (ho : o = nxt (pc + n) L (v :: S) (g, mi, ml, mr)) (h : o = some (.inl cf')) (kk : Sat p l e R s m args below meth c Q D A sb Ls xs w0 (mL M) C0 S0 C1 S1 cf') : Sat p l e R s m args below meth c Q D A sb Ls xs w0 (mL M) C0 S0 C1 S1 (pc, L, S, g, mi, ml, mr) := by
  have := nxt_inj (ho.symm.trans h)
  subst this
  intro tys ws H locs ls st hH hL hS hV hE hb
  exact hk (kk tys ws H locs ls _ hH hL ⟨hv ws, hS⟩ hV hE hb)
theorem tgt_ok {off : Int} (h : okt pc off = true) : (pc : Int) + off = (tgt pc off : Int) := by
  unfold tgt
  exact (Int.toNat_of_nonneg (of_decide_eq_true h)).symm
theorem s_goto {off : Int} (X : Cx p l R s m args meth c A sb Ls xs M d C0 S0 C1 S1) (hd : decode (mB M) pc = .ok (.goto off, 3)) (h : i_goto off pc L S (g, mi, ml, mr) = some (.inl cf')) (kk : Sat p l e R s m args below meth c Q D A sb Ls xs w0 (mL M) C0 S0 C1 S1 cf') : Sat p l e R s m args below meth c Q D A sb Ls xs w0 (mL M) C0 S0 C1 S1 (pc, L, S, g, mi, ml, mr) := by
  unfold i_goto at h
  cases ho : okt pc off with
  | false => rw [ho] at h; cases h
  | true =>
    rw [ho] at h
    have := nxt_inj h
    subst this
    intro tys ws H locs ls st hH hL hS hV hE hb
    exact lv_goto X.1 X.2.1 hd (tgt_ok ho) (kk tys ws H locs ls st hH hL hS hV hE hb)
theorem s_if {op : Jvm.ClassFile.Cond} {off : Int} (X : Cx p l R s m args meth c A sb Ls xs M d C0 S0 C1 S1) (hd : decode (mB M) pc = .ok (.ifCond op off, 3)) (h : i_if op off pc L S (g, mi, ml, mr) = some (.inl cf')) (kk : Sat p l e R s m args below meth c Q D A sb Ls xs w0 (mL M) C0 S0 C1 S1 cf') : Sat p l e R s m args below meth c Q D A sb Ls xs w0 (mL M) C0 S0 C1 S1 (pc, L, S, g, mi, ml, mr) := by
  unfold i_if at h
  split at h
  · rename_i x S'
    cases ho : okt pc off with
    | false => rw [ho] at h; cases h
    | true =>
      rw [ho] at h
      intro tys ws H locs ls st hH hL hS hV hE hb
      obtain ⟨w1, st1, rfl, h1, hS1⟩ := FR.cons hS
      cases h1.int
      have kt : cmpB op x 0 = true → W p l e R s m args below meth c H locs (C0 - g.2.2.2.1) (S0 - g.2.2.2.2) Q (F0 m (tgt pc off) ls st1) := fun hc => by
        rw [hc] at h
        have := nxt_inj h
        subst this
        exact kk tys ws H locs ls st1 hH hL hS1 hV hE hb
      have kf : cmpB op x 0 = false → W p l e R s m args below meth c H locs (C0 - g.2.2.2.1) (S0 - g.2.2.2.2) Q (F0 m (pc + 3) ls st1) := fun hc => by
        rw [hc] at h
        have := nxt_inj h
        subst this
        exact kk tys ws H locs ls st1 hH hL hS1 hV hE hb
      have t := tgt_ok ho
      cases op with
      | eq => exact lv_if_eq X.1 X.2.1 hd t (fun q => kt (decide_eq_true q)) (fun q => kf (decide_eq_false q))
      | ne => exact lv_if_ne X.1 X.2.1 hd t (fun q => kt (by show (!decide (x = 0)) = true; rw [decide_eq_false q]; rfl)) (fun q => kf (by show (!decide (x = 0)) = false; rw [decide_eq_true q]; rfl))
      | lt => exact lv_if_lt X.1 X.2.1 hd t (fun q => kt (decide_eq_true q)) (fun q => kf (decide_eq_false q))
      | ge => exact lv_if_ge X.1 X.2.1 hd t (fun q => kt (decide_eq_true q)) (fun q => kf (decide_eq_false q))
      | gt => exact lv_if_gt X.1 X.2.1 hd t (fun q => kt (decide_eq_true q)) (fun q => kf (decide_eq_false q))
      | le => exact lv_if_le X.1 X.2.1 hd t (fun q => kt (decide_eq_true q)) (fun q => kf (decide_eq_false q))
  · cases h
theorem s_icmp {op : Jvm.ClassFile.Cond} {off : Int} (X : Cx p l R s m args meth c A sb Ls xs M d C0 S0 C1 S1) (hd : decode (mB M) pc = .ok (.if_icmp op off, 3)) (h : i_icmp op off pc L S (g, mi, ml, mr) = some (.inl cf')) (kk : Sat p l e R s m args below meth c Q D A sb Ls xs w0 (mL M) C0 S0 C1 S1 cf') : Sat p l e R s m args below meth c Q D A sb Ls xs w0 (mL M) C0 S0 C1 S1 (pc, L, S, g, mi, ml, mr) := by
  unfold i_icmp at h
  split at h
  · rename_i y x S'
    cases ho : okt pc off with
    | false => rw [ho] at h; cases h
    | true =>
      rw [ho] at h
      intro tys ws H locs ls st hH hL hS hV hE hb
      obtain ⟨w1, st1, rfl, h1, hS1⟩ := FR.cons hS
      obtain ⟨w2, st2, rfl, h2, hS2⟩ := FR.cons hS1
      cases h1.int
      cases h2.int
      have kt : cmpB op x y = true → W p l e R s m args below meth c H locs (C0 - g.2.2.2.1) (S0 - g.2.2.2.2) Q (F0 m (tgt pc off) ls st2) := fun hc => by
        rw [hc] at h
        have := nxt_inj h
        subst this
        exact kk tys ws H locs ls st2 hH hL hS2 hV hE hb
      have kf : cmpB op x y = false → W p l e R s m args below meth c H locs (C0 - g.2.2.2.1) (S0 - g.2.2.2.2) Q (F0 m (pc + 3) ls st2) := fun hc => by
        rw [hc] at h
        have := nxt_inj h
        subst this
        exact kk tys ws H locs ls st2 hH hL hS2 hV hE hb
      have t := tgt_ok ho
      cases op with
      | eq => exact lv_icmp_eq X.1 X.2.1 hd t (fun q => kt (decide_eq_true q)) (fun q => kf (decide_eq_false q))
      | ne => exact lv_icmp_ne X.1 X.2.1 hd t (fun q => kt (by show (!decide (x = y)) = true; rw [decide_eq_false q]; rfl)) (fun q => kf (by show (!decide (x = y)) = false; rw [decide_eq_true q]; rfl))
      | lt => exact lv_icmp_lt X.1 X.2.1 hd t (fun q => kt (decide_eq_true q)) (fun q => kf (decide_eq_false q))
      | ge => exact lv_icmp_ge X.1 X.2.1 hd t (fun q => kt (decide_eq_true q)) (fun q => kf (decide_eq_false q))
      | gt => exact lv_icmp_gt X.1 X.2.1 hd t (fun q => kt (decide_eq_true q)) (fun q => kf (decide_eq_false q))
      | le => exact lv_icmp_le X.1 X.2.1 hd t (fun q => kt (decide_eq_true q)) (fun q => kf (decide_eq_false q))
  · cases h
theorem s_tab {df lo hi : Int} {offs : Array Int} {n : Nat} (X : Cx p l R s m args meth c A sb Ls xs M d C0 S0 C1 S1) (hd : decode (mB M) pc = .ok (.tableswitch df lo hi offs, n)) (h : i_tab df lo hi offs pc L S (g, mi, ml, mr) = some (.inl cf')) (kk : Sat p l e R s m args below meth c Q D A sb Ls xs w0 (mL M) C0 S0 C1 S1 cf') : Sat p l e R s m args below meth c Q D A sb Ls xs w0 (mL M) C0 S0 C1 S1 (pc, L, S, g, mi, ml, mr) := by
  unfold i_tab at h
  split at h
  · rename_i x S'
    intro tys ws H locs ls st hH hL hS hV hE hb
    obtain ⟨w1, st1, rfl, h1, hS1⟩ := FR.cons hS
    cases h1.int
    by_cases hx : x.toInt < lo ∨ hi < x.toInt
    · rw [if_pos hx] at h
      unfold i_goto at h
      cases ho : okt pc df with
      | false => rw [ho] at h; cases h
      | true =>
        rw [ho] at h
        have := nxt_inj h
        subst this
        exact lv_tableOut X.1 X.2.1 hd hx (tgt_ok ho) (kk tys ws H locs ls st1 hH hL hS1 hV hE hb)
    · rw [if_neg hx] at h
      split at h
      · rename_i off hoff
        unfold i_goto at h
        cases ho : okt pc off with
        | false => rw [ho] at h; cases h
        | true =>
          rw [ho] at h
          have := nxt_inj h
          subst this
          exact lv_tableIn X.1 X.2.1 hd (fun q => hx (Or.inl q)) (fun q => hx (Or.inr q)) hoff (tgt_ok ho) (kk tys ws H locs ls st1 hH hL hS1 hV hE hb)
      · cases h
  · cases h
end SND
