/-! THE SMALL MACHINE IS SOUND: what a call of it answers, the real method answers -/
section SND9
variable {D : va_G} {A : Nat → Prop} {sb Ls : Nat} {xs : Nat → Int32} {w0 : va_W} {M : Mth} {d C0 S0 : Nat} {cl : CallF}
theorem sat_run {p : Program} {l : Launch} {e : Env} {R : Room} {s : State} {m : MethodId} {args : Array Value} {below : List Frame} {meth : Method} {c : Code} {Q : State → Prop} {r0 : Res} (X : Cx p l R s m args meth c A sb Ls xs M d C0 S0 r0.2.1.2.2.2.1 r0.2.1.2.2.2.2) (hcl : ∀ d', d = d' + 1 → CO d' cl) (h0 : d = 0 → ∀ M as h, cl M as h = none) (hcm : CM cl)
    (hfin : ∀ (i : Instr) (n pc : Nat) (L S : List Value) (g : Gh) (mi : MI) (ml : ML) (mr : MR), decode (mB M) pc = .ok (i, n) → n = ilen i n → stI cl d M i pc L S g mi ml mr = some (.inr r0) → Sat p l e R s m args below meth c Q D A sb Ls xs w0 (mL M) C0 S0 r0.2.1.2.2.2.1 r0.2.1.2.2.2.2 (pc, L, S, g, mi, ml, mr)) :
    ∀ (n : Nat) (cf : Cf), runF (stp cl d M) n cf = some r0 → Sat p l e R s m args below meth c Q D A sb Ls xs w0 (mL M) C0 S0 r0.2.1.2.2.2.1 r0.2.1.2.2.2.2 cf := by
  intro n
  induction n with
  | zero => intro cf h; cases h
  | succ n ih =>
    intro cf h
    obtain ⟨pc, L, S, g, mi, ml, mr⟩ := cf
    unfold runF at h
    cases hs : stp cl d M (pc, L, S, g, mi, ml, mr) with
    | none => rw [hs] at h; cases h
    | some x =>
      rw [hs] at h
      unfold stp at hs
      dsimp only at hs
      split at hs
      · rename_i i k hd
        cases hc : Nat.beq k (ilen i k)
        · rw [hc] at hs; cases hs
        · rw [hc] at hs
          simp only [cond_true] at hs
          have hk := Nat.eq_of_beq_eq_true hc
          cases x with
          | inr r' =>
            cases h
            exact hfin i k pc L S g mi ml mr hd hk hs
          | inl cf' => exact snd_step X hcl h0 hcm hd hk hs (runF_le hcm h) (ih cf' h)
      · cases hs
theorem ent_len {ws : va_W} : ∀ {as vs : List Value}, FR ws sb as vs → (ent as).length = (lg_sl vs).length
  | [], [], _ => rfl
  | v :: as, w :: vs, h => by
    have ih := ent_len h.2
    have hc := h.1.cat
    cases v with
    | long x =>
      cases h.1.lng
      show (ent as).length + 1 + 1 = (lg_sl (Value.long x :: vs)).length
      rw [ih]
      rfl
    | int x =>
      cases h.1.int
      show (ent as).length + 1 = (lg_sl (Value.int x :: vs)).length
      rw [ih]
      rfl
    | ref x =>
      show (ent as).length + 1 = (lg_sl (w :: vs)).length
      unfold lg_sl
      rw [List.flatMap_cons, if_neg (by rw [← hc]; exact (by decide : ¬ (1 = 2))), ih]
      rfl
    | retAddr x =>
      show (ent as).length + 1 = (lg_sl (w :: vs)).length
      unfold lg_sl
      rw [List.flatMap_cons, if_neg (by rw [← hc]; exact (by decide : ¬ (1 = 2))), ih]
      rfl
    | _ => exact absurd h.1 (fun h => h)
  | [], _ :: _, hv => absurd hv (fun h => h)
  | _ :: _, [], hv => absurd hv (fun h => h)
theorem ent_at {ws : va_W} : ∀ {as vs : List Value} (off : Nat), FR ws sb as vs → ∀ (i : Nat) (v : Value), (ent as)[i]? = some v → v ≠ .null → ∃ w, VR ws sb v w ∧ (off + i, w) ∈ lv_args off vs
  | [], [], _, _, i, v, h, _ => by cases h
  | u :: as, w :: vs, off, h, i, v, hi, hv => by
    have hc := h.1.cat
    by_cases hu : ∃ x, u = .long x
    · obtain ⟨x, rfl⟩ := hu
      cases h.1.lng
      match i, hi with
      | 0, hi =>
        cases hi
        exact ⟨.long x, rfl, List.mem_cons_self⟩
      | 1, hi =>
        cases hi
        exact absurd rfl hv
      | i + 2, hi =>
        obtain ⟨w', h1, h2⟩ := ent_at (off + 2) h.2 i v hi hv
        refine ⟨w', h1, List.mem_cons_of_mem _ ?_⟩
        rw [show off + (i + 2) = off + 2 + i by omega]
        exact h2
    · have hcat : ¬ w.category = 2 := by
        rw [← hc]
        cases u with
        | long x => exact absurd ⟨x, rfl⟩ hu
        | double x => exact absurd h.1 (fun h => h)
        | _ => exact (by decide : ¬ (1 = 2))
      have he : ent (u :: as) = u :: ent as := by
        cases u with
        | long x => exact absurd ⟨x, rfl⟩ hu
        | _ => rfl
      rw [he] at hi
      match i, hi with
      | 0, hi =>
        cases hi
        exact ⟨w, h.1, List.mem_cons_self⟩
      | i + 1, hi =>
        obtain ⟨w', h1, h2⟩ := ent_at (off + 1) h.2 i v hi hv
        refine ⟨w', h1, List.mem_cons_of_mem _ ?_⟩
        rw [if_neg hcat, show off + (i + 1) = off + 1 + i by omega]
        exact h2
  | [], _ :: _, _, hv, _, _, _, _ => absurd hv (fun h => h)
  | _ :: _, [], _, hv, _, _, _, _ => absurd hv (fun h => h)
theorem ent_LR {ws : va_W} {as vs : List Value} (h : FR ws sb as vs) (hl : (ent as).length ≤ mL M) : LR ws sb (mL M) (entL M as) (lg_sl vs ++ List.replicate (mL M - (lg_sl vs).length) Slot.unset).toArray := by
  have h1 := lv_entry vs (n := mL M) (by rw [← ent_len h]; exact hl)
  refine ⟨h1.1, ?_, h1.2.1, fun i v hi hv => ?_⟩
  · unfold entL
    rw [List.length_append, List.length_replicate]
    omega
  · unfold entL at hi
    rcases Nat.lt_or_ge i (ent as).length with hlt | hge
    · rw [List.getElem?_append_left hlt] at hi
      obtain ⟨w, h2, h3⟩ := ent_at 0 h i v hi hv
      rw [Nat.zero_add] at h3
      exact ⟨w, h2, h1.2.2 _ h3⟩
    · rw [List.getElem?_append_right hge] at hi
      have := List.mem_of_getElem? hi
      rw [List.mem_replicate] at this
      exact absurd this.2 hv
theorem sound_s (d : Nat) (hcl : ∀ d', d = d' + 1 → CO d' (callT d)) : CO d (callT (d + 1)) := by
  intro M as h r hr hok hlaw l hls D A sb Ls xs tys ws vs hfr
  obtain ⟨g, mi, ml, mr⟩ := h
  unfold callT at hr
  cases hle : Nat.ble (ent as).length (mL M)
  · rw [hle] at hr; cases hr
  rw [hle] at hr
  simp only [cond_true] at hr
  have hle' : (ent as).length ≤ mL M := Nat.le_of_ble_eq_true hle
  obtain ⟨n, hn⟩ := (run_spec _ _ _).mp hr
  have hmono := runF_le (callT_le d) hn
  have h0 : d = 0 → ∀ M as h, callT d M as h = none := fun e => by subst e; exact fun _ _ _ => rfl
  have body : ∀ (p : Program) (e : Env) (s : State) (m : MethodId) (args : Array Value) (below : List Frame) (meth : Method) (c : Code) (s₁ : State), BodyLoose p l (mY M) (headSpec (wsM M) (rmD d (g.2.2.2.1 - r.2.1.2.2.2.1) (g.2.2.2.2 - r.2.1.2.2.2.2))) (mB M) (mL M) (mR M) e s m args below meth c s₁ → c.maxLocals = mL M → c.exceptionTable.toList = tableOf (mH M) → cP D A sb Ls xs tys ws (g, mi, ml, mr) vs args s →
      W p l e (rmD d (g.2.2.2.1 - r.2.1.2.2.2.1) (g.2.2.2.2 - r.2.1.2.2.2.2)) s m args below meth c s.heap [] 0 0 (vx_MQ below (cQ D A sb Ls xs ws r) (cX D A sb Ls xs ws r) args s (g.2.2.2.1 - r.2.1.2.2.2.1) (g.2.2.2.2 - r.2.1.2.2.2.2) A) (entryFrame m args (mL M)) := by
    intro p e s m args below meth c s₁ B hml hexc hv
    obtain ⟨rfl, hH, hWd, hA⟩ := hv
    have hts := atoms_spec (ws := wsM M) B.pre
    have hown : s.vm.findClass (mY M).cls = some m.cls := findClass_of_methodNamed B.named
    rw [hok.2.1] at hown
    have hname : meth.name = (mY M).name := (name_of_methodNamed B.named B.method).1
    have X : Cx p l (rmD d (g.2.2.2.1 - r.2.1.2.2.2.1) (g.2.2.2.2 - r.2.1.2.2.2.2)) s m vs.toArray meth c A sb Ls xs M d g.2.2.2.1 g.2.2.2.2 r.2.1.2.2.2.1 r.2.1.2.2.2.2 :=
      ⟨B.exec, B.bytes, hml, hown, fun w hw => hts w (List.mem_cons_of_mem _ hw), B.notSynchronized, fun h9 => hname.trans h9, B.returns, Or.inr hexc, hWd, hls, Nat.le_refl _, Nat.le_refl _, by show g.2.2.2.1 ≤ r.2.1.2.2.2.1 + (g.2.2.2.1 - r.2.1.2.2.2.1); omega, by show g.2.2.2.2 ≤ r.2.1.2.2.2.2 + (g.2.2.2.2 - r.2.1.2.2.2.2); omega, hA, fun e => by rw [hlaw] at e; cases e⟩
    have K := sat_run (e := e) (below := below) (D := D) (w0 := ws) X hcl h0 (callT_le d) (fun i n pc L S g mi ml mr hd hn h => f_step hlaw X hcl h0 (callT_le d) hd hn h) n _ hn tys ws s.heap [] _ [] hH (ent_LR hfr hle') trivial va_S.rf Ex.rf ⟨⟨hmono.1, Nat.le_refl _⟩, hmono.2, Nat.le_refl _⟩
    rw [lg_entry_eq]
    exact W.cs (Nat.sub_self _).symm (Nat.sub_self _).symm K
  by_cases hMH : mH M = []
  · have hcw : cwd M = .code (mY M) (mB M) (mL M) (mR M) := by unfold cwd; rw [hMH]
    refine vx_ofW (cc := mB M) (maxL := mL M) (ret := mR M) hok.2.2.2.1 (by unfold wsM; rw [hcw]) ?_
    intro p e s m args below meth c s₁ B hml hexc hv
    refine body p e s m args below meth c s₁ B hml ?_ hv
    rw [hMH]
    cases hl : c.exceptionTable.toList with
    | nil => rfl
    | cons a b => exact absurd (hexc a (by rw [hl]; exact List.mem_cons_self)) (fun h => h)
  · have hcw : cwd M = .codeWith (mY M) (mB M) (mL M) (mR M) (mH M) := by
      unfold cwd
      split
      · rename_i h9; exact absurd h9 hMH
      · rfl
    refine vx_ofWH (cc := mB M) (maxL := mL M) (ret := mR M) (hh := mH M) hok.2.2.2.1 (by unfold wsM; rw [hcw]) ?_
    intro p e s m args below meth c s₁ B hml hv
    refine body p e s m args below meth c s₁ B hml ?_ hv
    exact vx_table (x := mY M) B (atoms_spec (ws := wsM M) B.pre _ (by unfold wsM; rw [hcw]; exact List.mem_cons_self))
theorem sound : ∀ d, CO d (callT (d + 1))
  | 0 => sound_s 0 (fun d' h => by cases h)
  | d + 1 => sound_s (d + 1) (fun d' h => by cases h; exact sound d)
end SND9
