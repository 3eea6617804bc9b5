/-! .. each kind of call -/
section SND6
variable {p : Program} {l : Launch} {e : Env} {R : Room} {s : State} {m : MethodId} {args : Array Value} {below : List Frame} {meth : Method} {c : Code} {Q : State → Prop}
variable {D : va_G} {A : Nat → Prop} {sb Ls : Nat} {xs : Nat → Int32} {w0 : va_W} {M M' : Mth} {d d' C0 S0 C1 S1 x k : Nat} {cl : CallF} {cf' : Cf} {pc : Nat} {L S S' : List Value} {g : Gh} {mi : MI} {ml : ML} {mr : MR} {tys : List (ClassId × FieldType)} {ws : va_W} {H : Heap} {locs : List Loc} {ls : Array Slot} {st : List Value} {r : Res}
theorem stkV {a q : Nat} (hS : FR ws sb S st) (hk1 : 1 ≤ k) (hkl : k ≤ S.length) (hdr : S.drop (k - 1) = .ref a :: S') (hadr : adr ws sb a = some q) : ∃ (As rest : List Value), st = As.reverse ++ .ref q :: rest ∧ FR ws sb S' rest ∧ FR ws sb (S.take k).reverse (.ref q :: As) ∧ As.length = k - 1 := by
  obtain ⟨j, rfl⟩ : ∃ j, k = j + 1 := ⟨k - 1, by omega⟩
  simp only [Nat.add_sub_cancel] at hdr ⊢
  have h1 := hS.drop j
  rw [hdr] at h1
  obtain ⟨w, rest, h2, h3, h4⟩ := FR.cons h1
  cases h3.addr hadr
  have hlen := hS.len
  refine ⟨(st.take j).reverse, rest, ?_, h4, ?_, ?_⟩
  · rw [List.reverse_reverse, ← h2, List.take_append_drop]
  · have h5 := (hS.take (j + 1)).rev
    have h6 : st[j]? = some (.ref q) := by
      have := congrArg (fun z : List Value => z[0]?) h2
      simp only [List.getElem?_drop, Nat.add_zero, List.getElem?_cons_zero] at this
      exact this
    have h7 : st.take (j + 1) = st.take j ++ [.ref q] := by rw [List.take_add_one, h6]; rfl
    rw [h7, List.reverse_append] at h5
    exact h5
  · rw [List.length_reverse, List.length_take]
    omega
theorem stkS (hS : FR ws sb S st) (hkl : k ≤ S.length) : ∃ (As rest : List Value), st = As.reverse ++ rest ∧ FR ws sb (S.drop k) rest ∧ FR ws sb (S.take k).reverse As ∧ As.length = k := by
  have hlen := hS.len
  refine ⟨(st.take k).reverse, st.drop k, ?_, hS.drop k, (hS.take k).rev, ?_⟩
  · rw [List.reverse_reverse, List.take_append_drop]
  · rw [List.length_reverse, List.length_take]
    omega
theorem cP_blind {h : Hh} {vs : List Value} : FrameBlind (cP D A sb Ls xs tys ws h vs) := fun a U gf mk q => by
  obtain ⟨q0, q1, q2, q3⟩ := q
  exact ⟨q0, q1.mv (t := U.calling gf mk a) rfl (Vm.Alike.refl U.vm), q2.to (U := U.calling gf mk a) (locs := []) (State.WarmedH.refl U) va_S.rf, q3⟩
theorem cP_at {vs : List Value} (X : Cx p l R s m args meth c A sb Ls xs M d C0 S0 C1 S1) (hH : HR D A sb Ls xs tys ws g mi ml mr H s) (hV : va_S A s.heap H locs) : ∀ U : State, U.heap = H → s.WarmedH U.vm → cP D A sb Ls xs tys ws (g, mi, ml, mr) vs vs.toArray U := fun U hU hW =>
  ⟨rfl, hH.mv hU hW.alike, X.2.2.2.2.2.2.2.2.2.1.to (locs := locs) hW (by rw [hU]; exact hV), fun q hq => X.2.2.2.2.2.2.2.2.2.2.2.2.2.2.2.1 q (Nat.le_trans hV.1 (by rw [← hU]; exact hq))⟩
theorem rm_ok (X : Cx p l R s m args meth c A sb Ls xs M d C0 S0 C1 S1) (hdd : d = d' + 1) {mc ms nl : Nat} (hnl : nl ≤ 11) : (rmD d' mc ms).frames + 1 ≤ R.frames ∧ 8 + (nl + 11) + (rmD d' mc ms).locals ≤ R.locals := by
  have h1 := X.2.2.2.2.2.2.2.2.2.2.2.1
  have h2 := X.2.2.2.2.2.2.2.2.2.2.2.2.1
  subst hdd
  exact ⟨h1, show 8 + (nl + 11) + (30 * d' + 100) ≤ R.locals by omega⟩
theorem fit_ok (X : Cx p l R s m args meth c A sb Ls xs M d C0 S0 C1 S1) (hb : (C1 ≤ g.2.2.2.1 ∧ g.2.2.2.1 ≤ C0) ∧ (S1 ≤ g.2.2.2.2 ∧ g.2.2.2.2 ≤ S0)) (hm : (C1 ≤ r.2.1.2.2.2.1 ∧ r.2.1.2.2.2.1 ≤ g.2.2.2.1) ∧ (S1 ≤ r.2.1.2.2.2.2 ∧ r.2.1.2.2.2.2 ≤ g.2.2.2.2)) : C0 - g.2.2.2.1 + (g.2.2.2.1 - r.2.1.2.2.2.1) ≤ R.cells ∧ S0 - g.2.2.2.2 + (g.2.2.2.2 - r.2.1.2.2.2.2) ≤ R.slots := by
  have h1 := X.2.2.2.2.2.2.2.2.2.2.2.2.2.1
  have h2 := X.2.2.2.2.2.2.2.2.2.2.2.2.2.2.1
  omega
theorem cats_ok {rest : List Value} (h : FR ws sb S' rest) (hS4 : catS S' ≤ 8) {st0 : List Value} : 2 * (F0 m pc ls st0).monitorRoom + (rest.map fun v => v.category).sum ≤ 8 := by
  have := h.cats
  exact lv_room (m := m) (pc := pc) (ls := ls) (rest := st0) (by omega)
theorem run_V {a : Nat} (X : Cx p l R s m args meth c A sb Ls xs M d C0 S0 C1 S1) (hcl : CO d' cl) (hdd : d = d' + 1) (hd : decode (mB M) pc = .ok (.invokevirtual x, 3)) (hfe : lkp (mO M) x cT = some (0, M', k)) (hr : cl M' (S.take k).reverse (g, mi, ml, mr) = some r) (hk1 : 1 ≤ k) (hkl : k ≤ S.length) (hdr : S.drop (k - 1) = .ref a :: S') (ha : g.1 a = mO M' + 1) (hS4 : catS S' ≤ 8)
    (hH : HR D A sb Ls xs tys ws g mi ml mr H s) (hL : LR ws sb (mL M) L ls) (hS : FR ws sb S st) (hV : va_S A s.heap H locs) (hb : (C1 ≤ g.2.2.2.1 ∧ g.2.2.2.1 ≤ C0) ∧ (S1 ≤ g.2.2.2.2 ∧ g.2.2.2.2 ≤ S0)) (hm : (C1 ≤ r.2.1.2.2.2.1 ∧ r.2.1.2.2.2.1 ≤ g.2.2.2.1) ∧ (S1 ≤ r.2.1.2.2.2.2 ∧ r.2.1.2.2.2.2 ≤ g.2.2.2.2)) :
    ∃ (rest : List Value) (arr : Array Value), FR ws sb S' rest ∧ vx_Run p l e R s m args below meth c H locs (C0 - g.2.2.2.1) (S0 - g.2.2.2.2) (g.2.2.2.1 - r.2.1.2.2.2.1) (g.2.2.2.2 - r.2.1.2.2.2.2) (F0 m pc ls st) rest (cQ D A sb Ls xs ws r arr) (cX D A sb Ls xs ws r) A := by
  obtain ⟨hok, h1, h2, h3, h6, hMH, hpar⟩ := (cT_ok _ (lkp_mem hfe)).1 rfl
  dsimp only at hok h1 h2 h3 h6 hMH hpar
  obtain ⟨h2a, q, ev, hw, hadr, hc⟩ := hH.cell ha (Nat.succ_ne_zero _) (by omega)
  obtain ⟨fs, rfl, -, -⟩ := hc.obj ha h6
  obtain ⟨As, rest, hst, hrest, hfr, hlen⟩ := stkV hS hk1 hkl hdr hadr
  have hM := hcl M' _ (g, mi, ml, mr) r hr hok (cT_nl _ (lkp_mem hfe)) l X.2.2.2.2.2.2.2.2.2.2.1 D A sb Ls xs tys ws _ hfr
  have hcw : cwd M' = .code (mY M') (mB M') (mL M') (mR M') := by unfold cwd; rw [hMH]
  have hT : GoodIn WS (wsV (cN (mO M)) x (mY M').cls (mY M') (wsM M')) := by
    intro w hw
    rcases List.mem_append.mp hw with hw | hw
    · simp only [List.mem_cons, List.not_mem_nil, or_false] at hw
      rcases hw with rfl | rfl | rfl | rfl
      · exact ⟨WS_of h1, good_of_word h1.2⟩
      · exact ⟨WS_of h2, good_of_word h2.2⟩
      · exact ⟨WS_of h3, good_of_word h3.2⟩
      · exact ⟨WS_of hok.2.2.2.2.2, good_of_word hok.2.2.2.2.2.2⟩
    · exact wsM_good hok.1 w hw
  have hrec := va_recv hH.2.2.1 hH.1 (ci := mO M') (q0 := a - 2) (vwCl_at _ h6) hw
  rw [← hok.2.1] at hrec
  exact ⟨rest, _, hrest, vx_runV (As := As) (rest := rest) (nL := mL M) (Ts := WS) ⟨X.1, X.2.1, X.2.2.1, X.2.2.2.1, X.2.2.2.2.1⟩ hM (cwV (k - 1) X.2.2.2.2.1 hT (by unfold wsM; rw [hcw]) rfl rfl ⟨rfl, hok.2.2.2.2.1.1, hok.2.2.2.2.1.2, hpar⟩ (rm_ok X hdd hok.2.2.1)) ⟨cP_blind, hrec, cP_at X hH hV⟩ rfl hlen hL.1 hst (cats_ok hrest hS4) hd (fit_ok X hb hm)⟩
theorem run_I {a kd : Nat} (X : Cx p l R s m args meth c A sb Ls xs M d C0 S0 C1 S1) (hcl : CO d' cl) (hdd : d = d' + 1) (hd : decode (mB M) pc = .ok (.invokespecial x, 3)) (hfe : lkp (mO M) x cT = some (kd, M', k)) (hkd : kd = 2 ∨ kd = 3) (hr : cl M' (S.take k).reverse (g, mi, ml, mr) = some r) (hk1 : 1 ≤ k) (hkl : k ≤ S.length) (hdr : S.drop (k - 1) = .ref a :: S') (ha : g.1 a = mO M' + 1) (hS4 : catS S' ≤ 8)
    (hH : HR D A sb Ls xs tys ws g mi ml mr H s) (hL : LR ws sb (mL M) L ls) (hS : FR ws sb S st) (hV : va_S A s.heap H locs) (hb : (C1 ≤ g.2.2.2.1 ∧ g.2.2.2.1 ≤ C0) ∧ (S1 ≤ g.2.2.2.2 ∧ g.2.2.2.2 ≤ S0)) (hm : (C1 ≤ r.2.1.2.2.2.1 ∧ r.2.1.2.2.2.1 ≤ g.2.2.2.1) ∧ (S1 ≤ r.2.1.2.2.2.2 ∧ r.2.1.2.2.2.2 ≤ g.2.2.2.2)) :
    ∃ (rest : List Value) (arr : Array Value), FR ws sb S' rest ∧ vx_Run p l e R s m args below meth c H locs (C0 - g.2.2.2.1) (S0 - g.2.2.2.2) (g.2.2.2.1 - r.2.1.2.2.2.1) (g.2.2.2.2 - r.2.1.2.2.2.2) (F0 m pc ls st) rest (cQ D A sb Ls xs ws r arr) (cX D A sb Ls xs ws r) A := by
  rcases hkd with rfl | rfl
  · obtain ⟨hok, h1, h2, h6, hin, hret, hMH, hpar⟩ := (cT_ok _ (lkp_mem hfe)).2.2.2.1 rfl
    dsimp only at hok h1 h2 h6 hin hret hMH hpar
    obtain ⟨h2a, q, ev, hw, hadr, hc⟩ := hH.cell ha (Nat.succ_ne_zero _) (by omega)
    obtain ⟨As, rest, hst, hrest, hfr, hlen⟩ := stkV hS hk1 hkl hdr hadr
    have hM := hcl M' _ (g, mi, ml, mr) r hr hok (cT_nl _ (lkp_mem hfe)) l X.2.2.2.2.2.2.2.2.2.2.1 D A sb Ls xs tys ws _ hfr
    have hcw : cwd M' = .code (mY M') (mB M') (mL M') none := by unfold cwd; rw [hMH, hret]
    exact ⟨rest, _, hrest, vx_runI (As := As) (rest := rest) (nL := mL M) (Ts := WS) ⟨X.1, X.2.1, X.2.2.1, X.2.2.2.1, X.2.2.2.2.1⟩ hM (cwI (k - 1) X.2.2.2.2.1 (wsM_good hok.1) (by unfold wsM; rw [hcw]) rfl rfl (X.2.2.2.2.1 _ (WS_of hok.2.2.2.2.2)) (X.2.2.2.2.1 _ (WS_of h1)) (X.2.2.2.2.1 _ (WS_of h2)) hin ⟨hok.2.2.2.2.1.1, hok.2.2.2.2.1.2, hpar⟩ (rm_ok X hdd hok.2.2.1)) ⟨cP_blind, cP_at X hH hV⟩ rfl hlen hL.1 hst (cats_ok hrest hS4) hd (fit_ok X hb hm)⟩
  · obtain ⟨hok, -, h2, h6, hin, hret, hMH, hpar⟩ := (cT_ok _ (lkp_mem hfe)).2.2.2.2.1 rfl
    dsimp only at hok h2 h6 hin hret hMH hpar
    obtain ⟨h2a, q, ev, hw, hadr, hc⟩ := hH.cell ha (Nat.succ_ne_zero _) (by omega)
    obtain ⟨As, rest, hst, hrest, hfr, hlen⟩ := stkV hS hk1 hkl hdr hadr
    have hM := hcl M' _ (g, mi, ml, mr) r hr hok (cT_nl _ (lkp_mem hfe)) l X.2.2.2.2.2.2.2.2.2.2.1 D A sb Ls xs tys ws _ hfr
    have hcw : cwd M' = .code (mY M') (mB M') (mL M') none := by unfold cwd; rw [hMH, hret]
    exact ⟨rest, _, hrest, vx_runIN (As := As) (rest := rest) (nL := mL M) (Ts := WS) ⟨X.1, X.2.1, X.2.2.1, X.2.2.2.1, X.2.2.2.2.1⟩ hM ⟨va_cnB (k - 1) X.2.2.2.2.1 (wsM_good hok.1) (by unfold wsM; rw [hcw]) rfl rfl (X.2.2.2.2.2.2.2.2.2.1.2.2.2.2.1 _ (lkp_mem hfe) rfl) (X.2.2.2.2.1 _ (WS_of hok.2.2.2.2.2)) ⟨hok.2.2.2.2.1.1, hok.2.2.2.2.1.2, hpar⟩ (rm_ok X hdd hok.2.2.1), hin, X.2.2.2.2.1 _ (WS_of h2)⟩ ⟨cP_blind, cP_at X hH hV⟩ rfl hlen hL.1 hst (cats_ok hrest hS4) hd (fit_ok X hb hm)⟩
theorem run_S {kd : Nat} (X : Cx p l R s m args meth c A sb Ls xs M d C0 S0 C1 S1) (hcl : CO d' cl) (hdd : d = d' + 1) (hd : decode (mB M) pc = .ok (.invokestatic x, 3)) (hfe : lkp (mO M) x cT = some (kd, M', k)) (hkd : kd = 1 ∨ kd = 4) (hr : cl M' (S.take k).reverse (g, mi, ml, mr) = some r) (hkl : k ≤ S.length) (hS4 : catS (S.drop k) ≤ 8)
    (hH : HR D A sb Ls xs tys ws g mi ml mr H s) (hL : LR ws sb (mL M) L ls) (hS : FR ws sb S st) (hV : va_S A s.heap H locs) (hb : (C1 ≤ g.2.2.2.1 ∧ g.2.2.2.1 ≤ C0) ∧ (S1 ≤ g.2.2.2.2 ∧ g.2.2.2.2 ≤ S0)) (hm : (C1 ≤ r.2.1.2.2.2.1 ∧ r.2.1.2.2.2.1 ≤ g.2.2.2.1) ∧ (S1 ≤ r.2.1.2.2.2.2 ∧ r.2.1.2.2.2.2 ≤ g.2.2.2.2)) :
    ∃ (rest : List Value) (arr : Array Value), FR ws sb (S.drop k) rest ∧ vx_Run p l e R s m args below meth c H locs (C0 - g.2.2.2.1) (S0 - g.2.2.2.2) (g.2.2.2.1 - r.2.1.2.2.2.1) (g.2.2.2.2 - r.2.1.2.2.2.2) (F0 m pc ls st) rest (cQ D A sb Ls xs ws r arr) (cX D A sb Ls xs ws r) A := by
  obtain ⟨As, rest, hst, hrest, hfr, hlen⟩ := stkS hS hkl
  have hTg : mOk M' → inW (.methodLink (cN (mO M)) x (mY M')) → inW (.static (mY M')) → GoodIn WS (va_wsS (cN (mO M)) x (mY M') (wsM M')) := fun hok h1 h2 => by
    intro w hw
    rcases List.mem_append.mp hw with hw | hw
    · simp only [List.mem_cons, List.not_mem_nil, or_false] at hw
      rcases hw with rfl | rfl | rfl
      · exact ⟨WS_of h1, good_of_word h1.2⟩
      · exact ⟨WS_of h2, good_of_word h2.2⟩
      · exact ⟨WS_of hok.2.2.2.2.2, good_of_word hok.2.2.2.2.2.2⟩
    · exact wsM_good hok.1 w hw
  rcases hkd with rfl | rfl
  · obtain ⟨hok, h1, h2, hMH, hpar⟩ := (cT_ok _ (lkp_mem hfe)).2.1 rfl
    dsimp only at hok h1 h2 hMH hpar
    have hM := hcl M' _ (g, mi, ml, mr) r hr hok (cT_nl _ (lkp_mem hfe)) l X.2.2.2.2.2.2.2.2.2.2.1 D A sb Ls xs tys ws _ hfr
    have hcw : cwd M' = .code (mY M') (mB M') (mL M') (mR M') := by unfold cwd; rw [hMH]
    exact ⟨rest, _, hrest, vx_runS (As := As) (rest := rest) (nL := mL M) (Ts := WS) ⟨X.1, X.2.1, X.2.2.1, X.2.2.2.1, X.2.2.2.2.1⟩ hM (va_cwS k X.2.2.2.2.1 (hTg hok h1 h2) (by unfold wsM; rw [hcw]) rfl rfl ⟨hok.2.2.2.2.1.1, hok.2.2.2.2.1.2, hpar⟩ (rm_ok X hdd hok.2.2.1)) ⟨cP_blind, cP_at X hH hV⟩ rfl hlen hL.1 hst (cats_ok hrest hS4) hd (fit_ok X hb hm)⟩
  · obtain ⟨hok, h1, h2, hMH, hpar⟩ := (cT_ok _ (lkp_mem hfe)).2.2.1 rfl
    dsimp only at hok h1 h2 hMH hpar
    have hM := hcl M' _ (g, mi, ml, mr) r hr hok (cT_nl _ (lkp_mem hfe)) l X.2.2.2.2.2.2.2.2.2.2.1 D A sb Ls xs tys ws _ hfr
    have hcw : cwd M' = .codeWith (mY M') (mB M') (mL M') (mR M') (mH M') := by
      unfold cwd
      split
      · rename_i h9; exact absurd h9 hMH
      · rfl
    exact ⟨rest, _, hrest, vx_runSX (hh := mH M') (As := As) (rest := rest) (nL := mL M) (Ts := WS) ⟨X.1, X.2.1, X.2.2.1, X.2.2.2.1, X.2.2.2.2.1⟩ hM (vx_cwSW k X.2.2.2.2.1 (hTg hok h1 h2) (by unfold wsM; rw [hcw]) rfl rfl ⟨hok.2.2.2.2.1.1, hok.2.2.2.2.1.2, hpar⟩ (rm_ok X hdd hok.2.2.1)) ⟨cP_blind, cP_at X hH hV⟩ rfl hlen hL.1 hst (cats_ok hrest hS4) hd (fit_ok X hb hm)⟩
end SND6
