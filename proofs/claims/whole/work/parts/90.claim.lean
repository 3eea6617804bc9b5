/-! THE CLAIM OUT OF ONE WALK OF THE LAW'S BODY. Your part is whole_start (and what it stands on); all else here is the same for every law, but numbers. -/
def R_law : String := "TrunkGroupLaw"
def lw_P (b : Addr) (xs : List Int32) (args : Array Value) (s : State) : Prop := args = #[.ref b] ∧ s.IntsAt b xs ∧ xs.length ≤ 2048 ∧ (Jvm.Cond.and given_1 narrow_1).before args s = true
def lw_Q (_ : Array Value) (s : State) (o : Outcome) (t : State) : Prop := o = .returned (some (.int 1)) ∧ Framed s o t [] 601024 7293033
def lw_Z (below : List Frame) (a : Array Value) (s : State) : State → Prop := fun t => ∃ o, t.status = .running ∧ Ended t below o ∧ lw_Q a s o t
/-- the law's own end, with 1 on the stack, nothing written that was there before, its room as the claim has it -/
theorem lw_ret {p : Program} {l : Launch} {e : Env} {s : State} {m : MethodId} {below : List Frame} {meth : Method} {c : Code} {b : Nat} (hx : p.tables.exec = Jvm.exec) (hb : c.code = code) (hr : meth.sig.returnType = ret) (hlocks : meth.locks = false) {pc : Nat} {H : Heap} {ls : Array Slot} (hdg : decode code pc = .ok (.ireturn, 1)) : W p l e room_1 s m #[Value.ref b] below meth c H [] 601024 7293033 (lw_Z below #[Value.ref b] s) (F0 m pc ls [.int 1]) := by
  intro T hT X
  obtain ⟨fs, hret, hrun, hended, hW, hframe⟩ := X.leave (v := some (.int 1)) (hlocks := hlocks) (fun h => by rw [hr] at h; cases h)
  have hmeth' : T.vm.method? m = some meth := X.method'
  refine ⟨T.setFrames fs, ?_, .returned (some (.int 1)), hrun, hended, rfl, ⟨_, rfl⟩, hW, hframe⟩
  jvm_step X.here [X.here.top, hx, hb, hdg, hmeth', hr, ret, narrow_b1]
  (try refine ⟨rfl, ?_⟩); (try refine ⟨rfl, ?_⟩)
  first | (intro acts; rw [hret _ acts rfl rfl rfl]) | rw [hret _ _ rfl rfl rfl]
  exact Steps.refl _
/-- what holds at the law's entry: the machine, the code, the tables' words (any of lw_tbl by 'hts w (by decide +kernel)'), the script of L ints xs at the cell b, what the Statement gives of the start (any of its parts by flat_of_before) -/
def lw_At (p : Program) (s : State) (m : MethodId) (meth : Method) (c : Code) (b L : Nat) (xs : Nat → Int32) : Prop :=
  p.tables.exec = Jvm.exec ∧ c.code = code ∧ meth.sig.returnType = ret ∧ c.maxLocals = 7 ∧ s.vm.findClass R_law = some m.cls ∧ (∀ w ∈ lw_tbl, w.before #[Value.ref b] s = true) ∧ va_X b L xs s s.heap ∧ b < s.heap.size ∧ meth.locks = false ∧ (Jvm.Cond.and given_1 narrow_1).before #[Value.ref b] s = true
-- ===== YOUR PART BEGINS =====
-- ===== MY PART BEGINS =====
def g0 (L : Nat) : Gh := (u1 (fun _ => 0) 1 30, u1 (fun _ => 0) 1 L, 2, 601024, 7293033)
def mi0 (xs : Nat → Int32) : MI := fun a j => if a = 1 then xs j else 0
def law0 (L : Nat) (xs : Nat → Int32) : Cf := (0, [.ref 1, .null, .null, .null, .null, .null, .null], [], g0 L, mi0 xs, fun _ _ => 0, fun _ _ => 0)
def isDC (w : Cond) : Bool := match w with
  | .declares _ => true
  | .castable _ _ => true
  | _ => false
theorem Bad_sh : ∀ w ∈ Bad, (∃ x, w = .declares x) ∨ ∃ C T, w = .castable C T := by
  intro w hw
  have h : isDC w = true := List.all_eq_true.mp (show Bad.all isDC = true by decide +kernel) w hw
  cases w with
  | declares x => exact Or.inl ⟨x, rfl⟩
  | castable C T => exact Or.inr ⟨C, T, rfl⟩
  | _ => cases h
theorem xEs_cast : ∀ E ∈ xEs, Cond.castable E E ∈ lw_tbl := by decide +kernel
theorem xEs_nc : ∀ E ∈ xEs, ∀ E' ∈ xEs, E ≠ E' → Cond.not (.castable E E') ∈ flatC (Jvm.Cond.and given_1 narrow_1) := by decide +kernel
theorem own_cN : ∀ e ∈ sT, cN e.1 = RX4 := by decide +kernel
theorem start_Wd {s : State} {b : Nat} (hts : ∀ w ∈ lw_tbl, w.before #[Value.ref b] s = true) (hgv : (Jvm.Cond.and given_1 narrow_1).before #[Value.ref b] s = true) (h4 : ∃ c, s.vm.findClass RX4 = some c) : Wd (fun q => s.heap.size ≤ q) s := by
  have hfl := flat_of_before _ hgv
  have hA : ∀ a : Nat, a < s.heap.size → ¬ (fun q => s.heap.size ≤ q) a := fun a h => Nat.not_le.mpr h
  refine ⟨?_, ?_, fun e he => ?_, fun k hk => ?_, fun e he h3 => ?_, fun w hw => ?_, fun E hE => ?_, fun E hE E' hE' hn => ?_⟩
  · exact vx_Zqof (hts _ (List.mem_of_getElem? (i := 366) (by decide +kernel))) (hts _ (List.mem_of_getElem? (i := 55) (by decide +kernel))) (hfl _ (by decide +kernel)) hA
  · exact vx_Zqof (hts _ (List.mem_of_getElem? (i := 368) (by decide +kernel))) (hts _ (List.mem_of_getElem? (i := 55) (by decide +kernel))) (hfl _ (by decide +kernel)) hA
  · have h1 := hts _ (sT_ok e he)
    obtain ⟨cur, hcur⟩ := h4
    have hcur' : s.vm.findClass (cN e.1) = some cur := by rw [own_cN e he]; exact hcur
    obtain ⟨k, cf, i, a, -, -, -, -, -, hev⟩ := Cond.stringRef_spec hcur' h1
    exact ⟨a, vk_R.of (A := #[Value.ref b]) h1 hev⟩
  · rcases hk with rfl | rfl | rfl
    · exact va_AO.of (hts _ ak1.2.2)
    · exact va_AO.of (hts _ ak2.2.2)
    · exact va_AO.of (hts _ ak0.2.2)
  · exact va_Nw.of rfl (hts _ ((cT_ok e he).2.2.2.2.1 h3).2.1)
  · refine ⟨Bad_sh w hw, ?_⟩
    rcases Bad_sh w hw with ⟨x, rfl⟩ | ⟨C, T, rfl⟩
    · exact va_Nw.of rfl (hts _ (Bad_in _ hw))
    · exact va_Nw.of rfl (hts _ (Bad_in _ hw))
  · exact va_Nw.of rfl (hts _ (xEs_cast E hE))
  · exact va_Nc.of (hfl _ (xEs_nc E hE E' hE' hn))
/-- the law out of the small machine's run -/
theorem whole_of {p : Program} {e : Env} {s : State} {m : MethodId} {below : List Frame} {meth : Method} {c : Code} (l : Launch) (hflags : l.flags = flags0) {b L : Nat} {xs : Nat → Int32} (C0 : lw_At p s m meth c b L xs) {h' : Hh} (hrun : run (stp (callT 12) 12 mL_law) (law0 L xs) = some (.inl (some (.int 1)), h')) : W p l e room_1 s m #[Value.ref b] below meth c s.heap [] 0 0 (lw_Z below #[Value.ref b] s) (entryFrame m ([Value.ref b] : List Value).toArray 7) := by
  obtain ⟨hx, hb, hr, hml, hown, hts, hX, hbl, hlocks, hgv⟩ := C0
  have hgood : ∀ w ∈ WS, w.before #[Value.ref b] s = true := fun w hw => hts w (List.mem_filter.mp hw).1
  obtain ⟨c0, i0, k0⟩ := u_known (C := RX0) (T := TX0) (N := 6) (n := 6) hts (fun w h => (iX0 w h).1) (hts _ nk3.2.2.1.1)
  obtain ⟨c1, i1, k1⟩ := u_known (C := RX1) (T := TX1) (N := 11) (n := 11) hts (fun w h => (iX1 w h).1) (hts _ nk2.2.2.1.1)
  obtain ⟨c2, i2, k2⟩ := u_known (C := RX2) (T := TX2) (N := 8) (n := 8) hts (fun w h => (iX2 w h).1) (hts _ nk4.2.2.1.1)
  obtain ⟨c3, i3, k3⟩ := u_known (C := RX3) (T := TX3) (N := 9) (n := 9) hts (fun w h => (iX3 w h).1) (hts _ nk1.2.2.1.1)
  obtain ⟨c4, i4, k4⟩ := u_known (C := RX4) (T := TX4) (N := 3) (n := 3) hts (fun w h => (iX4 w h).1) (hts _ nk0.2.2.1.1)
  obtain ⟨c5, i5, k5⟩ := u_known (C := RX5) (T := TX5) (N := 7) (n := 7) hts (fun w h => (iX5 w h).1) (hts _ nk5.2.2.1.1)
  obtain ⟨dC, dI, hKc⟩ : ∃ (dC : Nat → ClassId) (dI : Nat → Nat → Nat), ∀ (k : Nat) (q : vw_C), vwCl[k]? = some q → u_Kn s q.1 q.2.1 q.2.2 (dC k) (dI k) := by
    refine ⟨fun k => match k with | 0 => c0 | 1 => c1 | 2 => c2 | 3 => c3 | 4 => c4 | _ => c5, fun k => match k with | 0 => i0 | 1 => i1 | 2 => i2 | 3 => i3 | 4 => i4 | _ => i5, ?_⟩
    intro k q hq
    match k, hq with
    | 0, hq => cases hq; exact k0
    | 1, hq => cases hq; exact k1
    | 2, hq => cases hq; exact k2
    | 3, hq => cases hq; exact k3
    | 4, hq => cases hq; exact k4
    | 5, hq => cases hq; exact k5
    | k + 6, hq => simp at hq
  have hK : va_K (dC, dI) vwCl [] s := ⟨hKc, fun k q h => by simp at h⟩
  have hP : va_P (dC, dI) vwCl [] s.heap := fun k q h => by simp at h
  have hD : va_D (fun q : Nat => s.heap.size ≤ q) [] := ⟨fun i j p q h => by simp at h, fun k q h => by simp at h⟩
  have hWd := start_Wd hts hgv ⟨c4, k4.2.1⟩
  have hls : l.stackTraces = false := by
    unfold Launch.stackTraces
    rw [hflags]
    decide +kernel
  have X : Cx p l room_1 s m #[Value.ref b] meth c (fun q => s.heap.size ≤ q) b L xs mL_law 12 601024 7293033 h'.1.2.2.2.1 h'.1.2.2.2.2 :=
    ⟨hx, hb, hml, hown, hgood, hlocks, fun h9 => absurd h9 (by decide +kernel), hr, Or.inl ⟨rfl, rfl⟩, hWd, hls, Nat.le_of_ble_eq_true rfl, Nat.le_of_ble_eq_true rfl, Nat.le_add_left _ _, Nat.le_add_left _ _, fun _ h => h, fun _ => ⟨hX, hbl, Nat.not_le.mpr hbl⟩⟩
  have hcl : ∀ d', 12 = d' + 1 → CO d' (callT 12) := fun d' h => by cases h; exact sound 11
  obtain ⟨n, hn⟩ := (run_spec _ _ _).mp hrun
  have hmono := runF_le (callT_le 12) hn
  have hH : HR (dC, dI) (fun q => s.heap.size ≤ q) b L xs [] [] (g0 L) (mi0 xs) (fun _ _ => 0) (fun _ _ => 0) s.heap s := by
    refine ⟨hP, hD, hK, rfl, fun a ha => ?_⟩
    have ha1 : a = 1 := by
      by_cases h9 : a = 1
      · exact h9
      · exact absurd (show u1 (fun _ => 0) 1 30 a = 0 by unfold u1; rw [if_neg h9]) ha
    subst ha1
    exact Or.inl ⟨rfl, rfl, rfl, fun j => rfl⟩
  have hfr : FR [] b [.ref 1] [.ref b] := ⟨Or.inr ⟨b, rfl, rfl⟩, trivial⟩
  have hLR := ent_LR (M := mL_law) hfr (show 1 ≤ 7 by decide)
  have K := sat_run (e := e) (below := below) (D := (dC, dI)) (w0 := []) (Q := lw_Z below #[Value.ref b] s) (r0 := (.inl (some (.int 1)), h')) X hcl (fun h => by cases h) (callT_le 12) ?_ n _ hn [] [] s.heap [] _ [] hH hLR trivial va_S.rf Ex.rf ⟨⟨hmono.1, Nat.le_refl _⟩, hmono.2, Nat.le_refl _⟩
  · rw [lg_entry_eq]
    exact W.cs (Nat.sub_self 601024).symm (Nat.sub_self 7293033).symm K
  · intro i k pc L' S g mi ml mr hd hk h
    cases i with
    | ireturn =>
      have hn1 : k = 1 := hk
      subst hn1
      replace h : i_iret mL_law S (g, mi, ml, mr) = some (.inr (.inl (some (.int 1)), h')) := h
      unfold i_iret at h
      split at h
      · rename_i v
        split at h
        · unfold fin at h
          cases h
          intro tys ws H locs ls st hH hL hS hV hE hb9
          obtain ⟨w1, st1, rfl, h1, hS1⟩ := FR.cons hS
          cases h1.int
          cases hS1.nil
          refine va_forget (fun q hq => hV.2.2 q hq) ?_
          refine W.widen (k := 601024) (n := 7293033) (Nat.sub_le _ _) (Nat.sub_le _ _) ?_
          exact lw_ret hx hb hr hlocks hd
        · cases h
      · cases h
    | new y =>
      exfalso
      replace h : i_new 12 mL_law y pc L' S g mi ml mr = some (.inr (.inl (some (.int 1)), h')) := h
      unfold i_new nxt fin at h
      split at h
      · split at h <;> cases h
      · split at h
        · cases h
        · split at h
          · split at h <;> cases h
          · cases h
    | invokevirtual y =>
      exfalso
      replace h : i_inv (callT 12) mL_law y pc L' S g (g, mi, ml, mr) = some (.inr (.inl (some (.int 1)), h')) := h
      unfold i_inv at h
      split at h
      · unfold i_callV at h
        split at h
        · split at h
          · unfold aft nxt fin at h
            split at h
            · cases h
            · cases h
            · cases h
            · split at h
              · cases h
              · split at h <;> cases h
          · cases h
        · cases h
      · cases h
    | invokestatic y =>
      exfalso
      replace h : i_invS (callT 12) 12 mL_law y pc L' S g mi ml mr = some (.inr (.inl (some (.int 1)), h')) := h
      unfold i_invS at h
      split at h
      · rename_i fe hfe
        cases h6 : Nat.beq fe.1 6
        · rw [h6] at h
          simp only [cond_false] at h
          cases h7 : Nat.beq fe.1 7
          · rw [h7] at h
            simp only [cond_false] at h
            unfold i_callS at h
            split at h
            · unfold aft nxt fin at h
              split at h
              · cases h
              · cases h
              · cases h
              · split at h
                · cases h
                · split at h <;> cases h
            · cases h
          · rw [h7] at h
            simp only [cond_true] at h
            unfold i_min nxt at h
            split at h <;> first | (cases h; done) | (split at h <;> cases h)
        · rw [h6] at h
          simp only [cond_true] at h
          unfold i_cpy nxt at h
          split at h <;> first | (cases h; done) | (split at h <;> cases h)
      · cases h
    | invokespecial y =>
      exfalso
      replace h : i_invP (callT 12) 12 mL_law y pc L' S g (g, mi, ml, mr) = some (.inr (.inl (some (.int 1)), h')) := h
      unfold i_invP at h
      split at h
      · rename_i fe hfe
        cases h5 : Nat.beq fe.1 5
        · rw [h5] at h
          simp only [cond_false] at h
          unfold i_callV at h
          split at h
          · split at h
            · unfold aft nxt fin at h
              split at h
              · cases h
              · cases h
              · cases h
              · split at h
                · cases h
                · split at h <;> cases h
            · cases h
          · cases h
        · rw [h5] at h
          simp only [cond_true] at h
          unfold i_obj nxt at h
          split at h <;> first | (cases h; done) | (split at h <;> cases h)
      · cases h
    | lreturn =>
      exfalso
      replace h : i_lret mL_law S (g, mi, ml, mr) = some (.inr (.inl (some (.int 1)), h')) := h
      unfold i_lret fin at h
      split at h <;> first | (cases h; done) | (split at h <;> cases h)
    | areturn =>
      exfalso
      replace h : i_aret mL_law S (g, mi, ml, mr) = some (.inr (.inl (some (.int 1)), h')) := h
      unfold i_aret fin at h
      split at h <;> first | (cases h; done) | (split at h <;> cases h)
    | return_ =>
      exfalso
      replace h : i_ret mL_law S (g, mi, ml, mr) = some (.inr (.inl (some (.int 1)), h')) := h
      unfold i_ret fin at h
      split at h <;> first | (cases h; done) | (split at h <;> cases h)
    | _ => exact absurd h (by
        intro h
        first
        | cases (show (none : Option (Cf ⊕ Res)) = some (.inr (.inl (some (.int 1)), h')) from h)
        | (revert h
           unfold stI
           simp only [i_ld, i_st, i_stL, i_inc, i_dup, i_dup2, i_opI, i_opL, i_dvI, i_dvL, i_lcmp, i_i2l, i_l2i, i_goto, i_if, i_icmp, i_tab, i_getf, i_putf, i_iald, i_lald, i_aald, i_iast, i_bast, i_last, i_aast, i_len, i_newa, i_k, nxt, cond_eq_ite]
           intro h
           repeat' (split at h)
           all_goals cases h))
/-- THE SMALL MACHINE'S OWN CLAIM -/
theorem law_true {L : Nat} (hL : L ≤ 2048) (xs : Nat → Int32) : ∃ h', run (stp (callT 12) 12 mL_law) (law0 L xs) = some (.inl (some (.int 1)), h') := by
  obtain ⟨h', e⟩ := law_run (L := L) (xs := xs) (g := g0 L) (mi := mi0 xs) (ml := fun _ _ => 0) (mr := fun _ _ => 0) hL rfl (show u1 (fun _ => 0) 1 30 1 = 30 from u1_s) (show u1 (fun _ => 0) 1 L 1 = L from u1_s) rfl rfl (fun j => if_pos rfl)
  exact ⟨h', e⟩
theorem whole_start {p : Program} {e : Env} {s : State} {m : MethodId} {below : List Frame} {meth : Method} {c : Code} (l : Launch) (hflags : l.flags = flags0) {b L : Nat} {xs : Nat → Int32} (hL : L ≤ 2048) (C0 : lw_At p s m meth c b L xs) : W p l e room_1 s m #[Value.ref b] below meth c s.heap [] 0 0 (lw_Z below #[Value.ref b] s) (entryFrame m ([Value.ref b] : List Value).toArray 7) := by
  obtain ⟨h', hr⟩ := law_true hL xs
  exact whole_of l hflags C0 hr
-- ===== MY PART ENDS =====
-- ===== YOUR PART ENDS =====
set_option maxHeartbeats 4000000 in
theorem lw_walk (l : Launch) (hflags : l.flags = flags0) (b : Addr) (xs : List Int32) : MetFree l x (headSpec (Jvm.Cond.code x code maxLocals ret :: tables_1) room_1) (lw_P b xs) (fun _ _ _ _ _ => True) lw_Q := by
  refine MetFree.of_bodyS (code := code) (maxLocals := maxLocals) (ret := ret) (by decide) ?_ ?_
  · intro args s m h hn
    obtain ⟨meth, c, h1, h2, h3, h4, h5, h6, -, -⟩ := Cond.code_spec hn (atoms_spec (ws := Jvm.Cond.code x code maxLocals ret :: tables_1) h _ List.mem_cons_self)
    exact ⟨meth, c, h1, h2, h3, h4, h5, h6⟩
  · intro p e s m args below meth c s₁ B hml0 hP _
    obtain ⟨rfl, hx, hbd, hgv⟩ := hP
    obtain ⟨scr, harrAt, hlist, hof, hsmall⟩ := hx
    obtain ⟨hcb, hkn, -, -⟩ := State.arrayAt?_spec harrAt
    have hown : s.vm.findClass R_law = some m.cls := findClass_of_methodNamed B.named
    have hts0 : ∀ c ∈ (Jvm.Cond.code x code maxLocals ret :: tables_1), c.before #[Value.ref b] s = true := atoms_spec (ws := Jvm.Cond.code x code maxLocals ret :: tables_1) B.pre
    have hts : ∀ w ∈ lw_tbl, w.before #[Value.ref b] s = true := k2_hts_sels lw_privs (fun w hw => hts0 w (List.mem_cons_of_mem _ hw)) lw_privs_ok
    have hml : c.maxLocals = 7 := B.maxLocals_eq (hts0 _ List.mem_cons_self)
    have X₀ : Stand p l e room_1 s m #[Value.ref b] below meth c s₁ [] 0 0 := Stand.of_body B
    have hh0 : s₁.heap = s.heap := by rw [B.state]; rfl
    have hsz : scr.slots.size = xs.length := by rw [← Array.length_toList, hlist, List.length_map]
    have hval : ∀ j : Nat, j < xs.length → scr.slots[j]? = some (.int (xs.getD j 0)) := fun j hj => by
      rw [← Array.getElem?_toList, hlist]
      simp [hj]
    have hbl : b < s.heap.size := (Array.getElem?_eq_some_iff.mp hcb).1
    have hX : va_X b xs.length (fun j => xs.getD j 0) s s.heap := ⟨scr, hcb, hof, hkn, hsz, hval⟩
    have K : W p l e room_1 s m #[Value.ref b] below meth c s₁.heap [] 0 0 (lw_Z below #[Value.ref b] s) (entryFrame m ([Value.ref b] : List Value).toArray 7) := by
      rw [hh0]
      exact whole_start l hflags hbd ⟨B.exec, B.bytes, B.returns, hml, hown, hts, hX, hbl, B.notSynchronized, hgv⟩
    obtain ⟨t, a1, o, b1, b2, b3⟩ := K s₁ rfl X₀
    exact ⟨t, o, a1, b1, b2, b3⟩
theorem lw_pre_spec {args : Array Value} {s : State} (h : (Jvm.Cond.and given_1 narrow_1).before args s = true) (hr : rest_1_c.before args s = true) : ∃ (b : Addr) (xs : List Int32), lw_P b xs args s := by
  have hs := flat_of_before _ h
  have hq := flat_of_before _ hr
  have hc : (Cond.count 1).before args s = true := hs _ (by decide +kernel)
  have harr : (Cond.arrayOf (.arg 0) .int).before args s = true := hs _ (by decide +kernel)
  have hle : (Cond.le (.length (.arg 0)) (.int 2048)).before args s = true := hs _ (by decide +kernel)
  have hlen : (Cond.isInt (.length (.arg 0))).before args s = true := hq _ (by decide +kernel)
  have hall : (Cond.all (.arg 0) (.isInt (.elem (.arg 0) (.index 0)))).before args s = true := hq _ (by decide +kernel)
  obtain ⟨b, xs, hb, hx⟩ := State.ints_of_pre rfl harr hlen hall
  have hsm : xs.length < 2 ^ 31 := hx.choose_spec.2.2.2
  have hev : (Term.length (.arg 0)).eval args s none [] s = some (.int xs.length.toInt32) := hx.length_eval hb
  have hv := Cond.le_ints hev (show (Term.int 2048).eval args s none [] s = some (.int 2048) from rfl)
  have hd : xs.length.toInt32 ≤ 2048 := by
    simpa [Cond.before, Cond.holds, hv] using hle
  have hN : xs.length ≤ 2048 := (Int32.ofNat_le_ofNat hsm (by decide)).mp (show Int32.ofNat xs.length ≤ Int32.ofNat 2048 from hd)
  exact ⟨b, xs, Cond.one_arg hc (show args[0]? = some (.ref b) from hb), hx, hN, h⟩
theorem lw_comes (l : Launch) (hflags : l.flags = flags0) : Comes l x (Jvm.Cond.code x code maxLocals ret :: tables_1) room_1 (fun tb e args s => Calls_1 tb e args s ∧ rest_1 tb e args s ∧ Pre_1 tb e args s)
    (fun _ _ args s o t => lw_Q args s o t) := by
  intro p e ha hc hk s m args below hf hfit hheap happ hpre
  obtain ⟨b, xs, hP⟩ := lw_pre_spec hpre.2.2 hpre.2.1
  obtain ⟨k, o, h1, h2, h3, hQ⟩ := lw_walk l hflags b xs p e ha hc hk s m args below hf ((Spec.applies_iff_loose hf).mp happ).1 hP trivial
  exact ⟨k, o, h1, h2, h3, hQ⟩
theorem lw_frame {s t : State} {o : Outcome} {args : Array Value} (h : Framed s o t [] 601024 7293033) :
    Framed s o t (fieldLocs frame_1_writes args s ++ arrayLocs frame_1_arrays args s ++ staticLocs frame_1_statics s) 601024 7293033 := h
theorem lw_limb (L : Cond) (hL : ∀ (args : Array Value) (s t : State), L.after args s (.returned (some (.int 1))) t = true) :
    ArmFor flags0 classFile x code maxLocals ret World_1 tables_1 room_1 Calls_1 rest_1 Pre_1
      (fun tb e a s o t => postC L tb e a s o t ∧ Framed s o t (fieldLocs frame_1_writes a s ++ arrayLocs frame_1_arrays a s ++ staticLocs frame_1_statics s) 601024 7293033) := by
  intro l hflags _ _ p e ha hc hk s m args below hf hfit hheap happ hpre
  obtain ⟨k, o, h1, h2, h3, rfl, hF⟩ := lw_comes l hflags p e ha hc hk s m args below hf hfit hheap happ hpre
  exact ⟨k, _, h1, h2, h3, hL args s _, lw_frame hF⟩
theorem i_vc : Claimed_1_1 ∧ Claimed_1_2 := ⟨lw_limb limb_1_1 (fun args s t => by simp [limb_1_1, Cond.after, Cond.holds, Cond.value]), lw_limb limb_1_2 (fun args s t => Cond.after_iff.mpr (by
  first | (rw [show limb_1_2 = Cond.eq .result (.int 1) from rfl, Cond.eq_ints (x := 1) (y := 1) rfl rfl]; simp; done) | (simp [limb_1_2, Cond.value, Term.eval]; done)))⟩
