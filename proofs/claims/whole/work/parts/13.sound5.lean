/-! .. calls, answers, throws -/
def wsM (M : Mth) : List Cond := cwd M :: WS
theorem wsM_good {M : Mth} (h : inW (cwd M)) : GoodIn WS (wsM M) := by
  intro w hw
  rcases List.mem_cons.mp hw with rfl | hw
  · exact ⟨WS_of h, good_of_word h.2⟩
  · exact ⟨hw, good_of_word (List.mem_filter.mp hw).2⟩
def rmD (d mc ms : Nat) : Room := { frames := d, cells := mc, slots := ms, locals := 30 * d + 100 }
def OV (ws : va_W) (sb : Nat) (o : Out) (v : Option Value) : Prop := match o with
  | .inl none => v = none
  | .inl (some x) => ∃ w, v = some w ∧ VR ws sb x w
  | .inr _ => False
def cP (D : va_G) (A : Nat → Prop) (sb Ls : Nat) (xs : Nat → Int32) (tys : List (ClassId × FieldType)) (ws : va_W) (h : Hh) (vs : List Value) : Array Value → State → Prop := va_Pc vs (fun U => HR D A sb Ls xs tys ws h.1 h.2.1 h.2.2.1 h.2.2.2 U.heap U ∧ Wd A U ∧ ∀ q, U.heap.size ≤ q → A q)
def cQ (D : va_G) (A : Nat → Prop) (sb Ls : Nat) (xs : Nat → Int32) (w0 : va_W) (r : Res) : Array Value → State → Outcome → State → Prop := fun _ st oc t => (∃ (v : Option Value) (tys : List (ClassId × FieldType)) (ws : va_W), oc = .returned v ∧ OV ws sb r.1 v ∧ Ex w0 ws ∧ HR D A sb Ls xs tys ws r.2.1 r.2.2.1 r.2.2.2.1 r.2.2.2.2 t.heap t) ∧ va_F A st t
def cX (D : va_G) (A : Nat → Prop) (sb Ls : Nat) (xs : Nat → Int32) (w0 : va_W) (r : Res) : String → State → State → Prop := fun E st t => (r.1 = .inr E ∧ ∃ (tys : List (ClassId × FieldType)) (ws : va_W), Ex w0 ws ∧ HR D A sb Ls xs tys ws r.2.1 r.2.2.1 r.2.2.2.1 r.2.2.2.2 t.heap t) ∧ va_F A st t
/-- every method that the calls reach meets what the small machine says -/
def CO (d : Nat) (cl : CallF) : Prop := ∀ (M : Mth) (as : List Value) (h : Hh) (r : Res), cl M as h = some r → mOk M → isL M = false → ∀ (l : Launch), l.stackTraces = false → ∀ (D : va_G) (A : Nat → Prop) (sb Ls : Nat) (xs : Nat → Int32) (tys : List (ClassId × FieldType)) (ws : va_W) (vs : List Value), FR ws sb as vs →
  vx_Met l (mY M) (wsM M) (rmD d (h.1.2.2.2.1 - r.2.1.2.2.2.1) (h.1.2.2.2.2 - r.2.1.2.2.2.2)) (cP D A sb Ls xs tys ws h vs) (cQ D A sb Ls xs ws r) (cX D A sb Ls xs ws r) (h.1.2.2.2.1 - r.2.1.2.2.2.1) (h.1.2.2.2.2 - r.2.1.2.2.2.2) A
/-- calls don't give room back -/
def CM (cl : CallF) : Prop := ∀ (M : Mth) (as : List Value) (h : Hh) (r : Res), cl M as h = some r → r.2.1.2.2.2.1 ≤ h.1.2.2.2.1 ∧ r.2.1.2.2.2.2 ≤ h.1.2.2.2.2
theorem cT_nl : ∀ e ∈ cT, isL e.2.2.2.1 = false := by decide +kernel
theorem eT_x : ∀ e ∈ eT, e.2.2 ∈ xEs ∧ e.2.1 ≠ 0 := by decide +kernel
section SND5
variable {p : Program} {l : Launch} {e : Env} {R : Room} {s : State} {m : MethodId} {args : Array Value} {below : List Frame} {meth : Method} {c : Code} {Q : State → Prop}
variable {D : va_G} {A : Nat → Prop} {sb Ls : Nat} {xs : Nat → Int32} {w0 : va_W} {M : Mth} {d C0 S0 C1 S1 : Nat} {cf' : Cf} {pc : Nat} {L S : List Value} {g : Gh} {mi : MI} {ml : ML} {mr : MR}
theorem HR.mv {tys : List (ClassId × FieldType)} {ws : va_W} {H H1 : Heap} {t : State} (h : HR D A sb Ls xs tys ws g mi ml mr H s) (ht : H1 = H) (hW : s.vm.Alike t.vm) : HR D A sb Ls xs tys ws g mi ml mr H1 t := ⟨by rw [ht]; exact h.1, h.2.1, va_K.moved hW h.2.2.1, h.2.2.2⟩
theorem HR.keep {tys : List (ClassId × FieldType)} {ws : va_W} {H H1 : Heap} {t : State} (h : HR D A sb Ls xs tys ws g mi ml mr H s) (hk : ∀ q : Nat, q < H.size → H1[q]? = H[q]?) (hW : s.vm.Alike t.vm) : HR D A sb Ls xs tys ws g mi ml mr H1 t := ⟨fun k q hq => (h.1 k q hq).kept (hk _ (h.1 k q hq).lt), h.2.1, va_K.moved hW h.2.2.1, h.2.2.2⟩
theorem HR.cs {tys : List (ClassId × FieldType)} {ws : va_W} {H : Heap} {c0 s0 : Nat} (h : HR D A sb Ls xs tys ws g mi ml mr H s) : HR D A sb Ls xs tys ws (g.1, g.2.1, g.2.2.1, c0, s0) mi ml mr H s := ⟨h.1, h.2.1, h.2.2.1, h.2.2.2.1, fun a ha => (h.2.2.2.2 a ha).elim (fun h => Or.inl h) (fun ⟨h1, h2, q, e, h3, h4⟩ => Or.inr ⟨h1, h2, q, e, h3, h4.ext Ex.rf (fun _ h => h) rfl rfl (fun _ => rfl) (fun _ => rfl) (fun _ => rfl)⟩)⟩
/-- behind a call: it has returned, or thrown -/
theorem s_run {r : Res} {ws : va_W} {H : Heap} {locs : List Loc} {cells slots mc ms : Nat} {ls : Array Slot} {st0 rest : List Value} {arr : Array Value} (hr : vx_Run p l e R s m args below meth c H locs cells slots mc ms (F0 m pc ls st0) rest (cQ D A sb Ls xs ws r arr) (cX D A sb Ls xs ws r) A) (hV : va_S A s.heap H locs)
    (kr : ∀ (v : Option Value) (tys : List (ClassId × FieldType)) (ws' : va_W) (H1 : Heap) (locs1 : List Loc), OV ws' sb r.1 v → Ex ws ws' → HR D A sb Ls xs tys ws' r.2.1 r.2.2.1 r.2.2.2.1 r.2.2.2.2 H1 s → va_S A s.heap H1 locs1 → W p l e R s m args below meth c H1 locs1 (cells + mc) (slots + ms) Q (F0 m (pc + 3) ls (v.toList ++ rest)))
    (kx : ∀ (E : String) (q : Addr) (ce : Cell) (tys : List (ClassId × FieldType)) (ws' : va_W) (H1 : Heap) (locs1 : List Loc), r.1 = .inr E → Ex ws ws' → HR D A sb Ls xs tys ws' r.2.1 r.2.2.1 r.2.2.2.1 r.2.2.2.2 H1 s → va_S A s.heap H1 locs1 → H1[q]? = some ce → ce.vm = .none → s.vm.findClass E = some ce.cls → vx_W p l e R s m args below meth c H1 locs1 (cells + mc) (slots + ms) Q (F0 m pc ls rest) q) : W p l e R s m args below meth c H locs cells slots Q (F0 m pc ls st0) := by
  intro T hT X
  rcases hr T hT X with ⟨v, st₀, t, T', Lo, h0, X', hLo, e1, e2, ⟨⟨v', tys, ws', hv, hov, hex, hhr⟩, hF⟩, st⟩ | ⟨q, st₀, t, T', Lo, E, ce, h0, X', hLo, e1, e2, ⟨⟨hE, tys, ws', hex, hhr⟩, hF⟩, hce, hcv, hcl, st⟩
  · cases hv
    obtain ⟨-, -, k3⟩ := vx_keep h0 e1 hV (fun _ _ h => h) (fun _ h => h) hLo hF
    have hal : t.vm.Alike s.vm := by rw [← e2]; exact X'.warmed.alike.symm
    obtain ⟨t2, a1, b1⟩ := kr v tys ws' T'.heap (locs ++ Lo) hov hex (hhr.mv e1 hal) k3 T' rfl X'
    exact ⟨t2, st t2 a1, b1⟩
  · obtain ⟨-, -, k3⟩ := vx_keep h0 e1 hV (fun _ _ h => h) (fun _ h => h) hLo hF
    have hal : t.vm.Alike s.vm := by rw [← e2]; exact X'.warmed.alike.symm
    obtain ⟨t2, a1, b1⟩ := kx E q ce tys ws' T'.heap (locs ++ Lo) hE hex (hhr.mv e1 hal) k3 (by rw [e1]; exact hce) hcv hcl T' rfl X'
    exact ⟨t2, st.trans a1, b1⟩
theorem hnd_ok {E : String} {hd : Nat} (X : Cx p l R s m args meth c A sb Ls xs M d C0 S0 C1 S1) (h : hnd M pc E = some hd) : ∃ (pre : List ExceptionTableEntry) (x : ExceptionTableEntry) (suf : List ExceptionTableEntry), c.exceptionTable.toList = pre ++ x :: suf ∧ (∀ z ∈ pre, covers z pc = false ∨ (z.catchType ≠ 0 ∧ ∃ nm : String, (Cond.classLink (cN (mO M)) z.catchType nm).before args s = true ∧ va_Nc E nm s)) ∧ covers x pc = true ∧ x.catchType ≠ 0 ∧ (Cond.classLink (cN (mO M)) x.catchType E).before args s = true ∧ (Cond.castable E E).before args s = true ∧ x.handlerPc = hd := by
  have hts := X.2.2.2.2.1
  have htb : c.exceptionTable.toList = tableOf (mH M) := by
    rcases X.2.2.2.2.2.2.2.2.1 with ⟨-, h9⟩ | h9
    · unfold hnd at h
      rw [h9] at h
      cases h
    · exact h9
  have hW := X.2.2.2.2.2.2.2.2.2.1
  unfold hnd at h
  split at h
  · cases h
  · rename_i st en hd' ct hM
    split at h
    · rename_i hc
      cases h
      have hm := lkp_mem hc.2.2
      have hx := eT_x _ hm
      refine ⟨[], ⟨st, en, hd, ct⟩, [], by rw [htb, hM]; rfl, (fun z hz => absurd hz List.not_mem_nil), ?_, hx.2, hts _ (WS_of (eT_ok _ hm)), va_Nw.use rfl (hW.2.2.2.2.2.2.1 E hx.1), rfl⟩
      show (decide (st ≤ pc) && decide (pc < en)) = true
      rw [decide_eq_true hc.1, decide_eq_true hc.2.1]; rfl
    · cases h
  · rename_i st en hd' ct st2 en2 hd2 ct2 rr hM
    split at h
    · rename_i hc
      cases h
      have hm := lkp_mem hc.2.2
      have hx := eT_x _ hm
      refine ⟨[], ⟨st, en, hd, ct⟩, tableOf ((st2, en2, hd2, ct2) :: rr), by rw [htb, hM]; rfl, (fun z hz => absurd hz List.not_mem_nil), ?_, hx.2, hts _ (WS_of (eT_ok _ hm)), va_Nw.use rfl (hW.2.2.2.2.2.2.1 E hx.1), rfl⟩
      show (decide (st ≤ pc) && decide (pc < en)) = true
      rw [decide_eq_true hc.1, decide_eq_true hc.2.1]; rfl
    · rename_i hn
      split at h
      · rename_i hc
        cases h
        obtain ⟨h1, h2, h3, h4, h5, h6⟩ := hc
        have hm := lkp_mem h6
        have hx := eT_x _ hm
        obtain ⟨nm, hnm⟩ := Option.isSome_iff_exists.mp h3
        have hm1 := lkp_mem hnm
        have hx1 := eT_x _ hm1
        refine ⟨[⟨st, en, hd', ct⟩], ⟨st2, en2, hd, ct2⟩, tableOf rr, by rw [htb, hM]; rfl, fun z hz => ?_, ?_, hx.2, hts _ (WS_of (eT_ok _ hm)), va_Nw.use rfl (hW.2.2.2.2.2.2.1 E hx.1), rfl⟩
        · cases List.mem_singleton.mp hz
          exact Or.inr ⟨hx1.2, nm, hts _ (WS_of (eT_ok _ hm1)), hW.2.2.2.2.2.2.2 E hx.1 nm hx1.1 (fun e => hn ⟨h1, h2, by rw [hnm, e]⟩)⟩
        · show (decide (st2 ≤ pc) && decide (pc < en2)) = true
          rw [decide_eq_true h4, decide_eq_true h5]; rfl
      · cases h
theorem s_aft {r : Res} {ws : va_W} {H : Heap} {locs : List Loc} {cells slots mc ms : Nat} {ls : Array Slot} {st0 rest S' : List Value} {arr : Array Value} (X : Cx p l R s m args meth c A sb Ls xs M d C0 S0 C1 S1) (hr : vx_Run p l e R s m args below meth c H locs cells slots mc ms (F0 m pc ls st0) rest (cQ D A sb Ls xs ws r arr) (cX D A sb Ls xs ws r) A) (hV : va_S A s.heap H locs) (hE : Ex w0 ws) (hL : LR ws sb (mL M) L ls) (hS : FR ws sb S' rest)
    (hc : cells + mc = C0 - r.2.1.2.2.2.1) (hs : slots + ms = S0 - r.2.1.2.2.2.2) (hb : (C1 ≤ r.2.1.2.2.2.1 ∧ r.2.1.2.2.2.1 ≤ C0) ∧ (S1 ≤ r.2.1.2.2.2.2 ∧ r.2.1.2.2.2.2 ≤ S0)) (h : aft M pc L S' (some r) = some (.inl cf')) (kk : Sat p l e R s m args below meth c Q D A sb Ls xs w0 (mL M) C0 S0 C1 S1 cf') : W p l e R s m args below meth c H locs cells slots Q (F0 m pc ls st0) := by
  refine s_run hr hV (fun v tys ws' H1 locs1 hov hex hH hV1 => ?_) (fun E q ce tys ws' H1 locs1 hE1 hex hH hV1 hce hcv hcl => ?_)
  · rw [hc, hs]
    obtain ⟨o, h'⟩ := r
    match o, hov, h with
    | .inl none, hov, h =>
      cases hov
      have := nxt_inj h
      subst this
      exact kk tys ws' H1 locs1 ls rest hH (hL.ext hex) (hS.ext hex) hV1 (hE.tr hex) hb
    | .inl (some x), hov, h =>
      obtain ⟨w, rfl, hw⟩ := hov
      have := nxt_inj h
      subst this
      exact kk tys ws' H1 locs1 ls (w :: rest) hH (hL.ext hex) ⟨hw, hS.ext hex⟩ hV1 (hE.tr hex) hb
    | .inr E, hov, h => exact absurd hov (fun h => h)
  · rw [hc, hs]
    obtain ⟨o, h'⟩ := r
    cases hE1
    unfold aft at h
    dsimp only at h
    split at h
    · unfold fin at h; cases h
    · split at h
      · cases h
      · rename_i hd hh
        have := nxt_inj h
        subst this
        obtain ⟨pre, x, suf, e1, e2, e3, e4, e5, e6, e7⟩ := hnd_ok X hh
        have K := kk tys ws' H1 locs1 ls [.ref q] hH (hL.ext hex) ⟨⟨q, rfl⟩, trivial⟩ hV1 (hE.tr hex) hb
        exact vx_catch X.2.2.2.1 pre x suf e1 e2 e3 e4 e5 e6 hce hcv hcl (by rw [e7]; exact K)
/-- an exception goes on -/
theorem f_aft (hnl : isL M = false) {r r' : Res} {ws : va_W} {H : Heap} {locs : List Loc} {cells slots mc ms : Nat} {ls : Array Slot} {st0 rest S' : List Value} {arr : Array Value} (X : Cx p l R s m args meth c A sb Ls xs M d C0 S0 C1 S1) (hr : vx_Run p l e R s m args below meth c H locs cells slots mc ms (F0 m pc ls st0) rest (cQ D A sb Ls xs ws r arr) (cX D A sb Ls xs ws r) A) (hV : va_S A s.heap H locs) (hE : Ex w0 ws)
    (hc : cells + mc = C0 - r'.2.1.2.2.2.1) (hs : slots + ms = S0 - r'.2.1.2.2.2.2) (h : aft M pc L S' (some r) = some (.inr r')) : W p l e R s m args below meth c H locs cells slots (vx_MQ below (cQ D A sb Ls xs w0 r') (cX D A sb Ls xs w0 r') args s (C0 - r'.2.1.2.2.2.1) (S0 - r'.2.1.2.2.2.2) A) (F0 m pc ls st0) := by
  obtain ⟨o, h'⟩ := r
  match o, hr, h with
  | .inl none, hr, h => unfold aft nxt at h; cases h
  | .inl (some x), hr, h => unfold aft nxt at h; cases h
  | .inr E, hr, h =>
    unfold aft at h
    dsimp only at h
    split at h
    · rename_i hM
      unfold fin at h
      cases h
      refine s_run hr hV (fun v tys ws' H1 locs1 hov hex hH hV1 => absurd hov (fun h => h)) (fun E' q ce tys ws' H1 locs1 hE1 hex hH hV1 hce hcv hcl => ?_)
      cases hE1
      refine vx_out (fun x hx => ?_) X.2.2.2.2.2.1 hce hcv hcl (fun t ht hal => ⟨⟨rfl, tys, ws', hE.tr hex, hH.mv ht hal⟩, hV1.F ht⟩) hV1.2.2 (Nat.le_of_eq hc) (Nat.le_of_eq hs)
      rcases X.2.2.2.2.2.2.2.2.1 with ⟨h9, -⟩ | h9
      · rw [hnl] at h9; cases h9
      rw [h9, hM] at hx
      cases hx
    · split at h
      · cases h
      · unfold nxt at h; cases h
end SND5
