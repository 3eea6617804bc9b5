/-! .. new cells, Object's constructor, arraycopy, Math.min -/
section SND4
variable {p : Program} {l : Launch} {e : Env} {R : Room} {s : State} {m : MethodId} {args : Array Value} {below : List Frame} {meth : Method} {c : Code} {Q : State → Prop}
variable {D : va_G} {A : Nat → Prop} {sb Ls : Nat} {xs : Nat → Int32} {w0 : va_W} {M : Mth} {d C0 S0 C1 S1 : Nat} {cf' : Cf} {pc : Nat} {L S : List Value} {g : Gh} {mi : MI} {ml : ML} {mr : MR}
theorem tyc_le : ∀ ci, ci < 6 → ∀ k, k < fN ci → tyc (tyX ci k) ≤ 3 := by decide +kernel
theorem VR.dflt {ws : va_W} {ty : FieldType} {a k : Nat} (h : tyc ty ≤ 3) : VR ws sb (fval (tyc ty) (z2 mi a 0) (z2 ml a 0) (z2 mr a 0) a k) (defaultValue ty) := by
  have z : ∀ {α : Type} (f : Nat → Nat → α) (v : α), z2 f a v a k = v := fun f v => by unfold z2; rw [if_pos rfl]
  cases ty with
  | int => unfold fval; rw [z, z, z]; rfl
  | boolean => unfold fval; rw [z, z, z]; rfl
  | long => unfold fval; rw [z, z, z]; rfl
  | object C => unfold fval; rw [z, z, z]; exact Or.inl ⟨rfl, rfl⟩
  | array t => unfold fval; rw [z, z, z]; exact Or.inl ⟨rfl, rfl⟩
  | _ => exact absurd h (by decide)
theorem room_1x {c0 c1 rc x : Nat} (h1 : c0 ≤ c1 + rc) (h2 : c1 ≤ x - 1) (h3 : 1 ≤ x) (h4 : x ≤ c0) : c0 - x + 1 ≤ rc := by omega
theorem room_nx {c0 c1 rc x n : Nat} (h1 : c0 ≤ c1 + rc) (h2 : c1 ≤ x - n) (h3 : n ≤ x) (h4 : x ≤ c0) : c0 - x + n ≤ rc := by omega
theorem s_new {x : Nat} (X : Cx p l R s m args meth c A sb Ls xs M d C0 S0 C1 S1) (hd : decode (mB M) pc = .ok (.new x, 3)) (h : i_new d M x pc L S g mi ml mr = some (.inl cf')) (hm : C1 ≤ cf'.2.2.2.1.2.2.2.1 ∧ S1 ≤ cf'.2.2.2.1.2.2.2.2) (kk : Sat p l e R s m args below meth c Q D A sb Ls xs w0 (mL M) C0 S0 C1 S1 cf') : Sat p l e R s m args below meth c Q D A sb Ls xs w0 (mL M) C0 S0 C1 S1 (pc, L, S, g, mi, ml, mr) := by
  unfold i_new at h
  split at h
  · rename_i ci hci
    split at h
    · rename_i hr0
      have := nxt_inj h
      subst this
      obtain ⟨h6, hcl, hins, hini⟩ := nT_ok _ (lkp_mem hci)
      dsimp only at h6 hcl hins hini
      have hm1 : C1 ≤ g.2.2.2.1 - 1 := hm.1
      have hm2 : S1 ≤ g.2.2.2.2 - fN ci := hm.2
      intro tys ws H locs ls st hH hL hS hV hE hb
      obtain ⟨⟨b1, b2⟩, b3, b4⟩ := hb
      dsimp only at b1 b2 b3 b4
      have hfs : ∀ j, j < fN ci → ((List.range (fN ci)).map fun j => defaultValue (tyX ci j))[j]? = some (defaultValue (tyX ci j)) := fun j hj => by
        rw [List.getElem?_map, List.getElem?_range hj]; rfl
      refine va_new (D := D) (ci := ci) (fs := (List.range (fN ci)).map fun j => defaultValue (tyX ci j)) (C := cN ci) (T := TX ci) (N := fN ci) (own := cN (mO M)) X.1 X.2.1 X.2.2.2.2.1 (uws_in _ h6) (tyX ci) (tyX_ok _ h6) X.2.2.2.1 (X.2.2.2.2.1 _ (WS_of hcl)) (X.2.2.2.2.1 _ (WS_of hins)) (X.2.2.2.2.1 _ (WS_of hini)) hH.2.2.1 hH.1 hH.2.1 hV X.2.2.2.2.2.2.2.2.2.2.2.2.2.2.2.1 (vwCl_at _ h6) (fun j hj => ?_) (room_1x X.2.2.2.2.2.2.2.2.2.2.2.2.2.1 hm1 hr0.1 b2) (room_nx X.2.2.2.2.2.2.2.2.2.2.2.2.2.2.1 hm2 hr0.2 b4) hd (fun q H1 hP hD hV1 => ?_)
      · unfold vp_V
        rw [List.getD_eq_getElem?_getD, hfs j hj]
        rfl
      · refine W.cs (cells' := C0 - (g.2.2.2.1 - 1)) (slots' := S0 - (g.2.2.2.2 - fN ci)) (by dsimp only; omega) (by dsimp only; omega) ?_
        have hn : g.2.2.1 = ws.length + 2 := hH.2.2.2.1
        have hadr : adr (ws ++ [(q, .inr (ci, (List.range (fN ci)).map fun j => defaultValue (tyX ci j)))]) sb g.2.2.1 = some q := by
          unfold adr
          rw [if_neg (by omega), if_neg (by omega), hn, show ws.length + 2 - 2 = ws.length by omega, List.getElem?_append_right (Nat.le_refl _), Nat.sub_self]
          rfl
        refine kk tys _ H1 locs ls (.ref q :: st) (hH.new rfl (fun _ h => h) hH.2.2.1 hP hD (by omega) (Or.inr trivial) (Or.inl ⟨ci, _, ?_, h6, rfl, by rw [List.length_map, List.length_range], fun k hk => ⟨_, hfs k hk, VR.dflt (tyc_le _ h6 _ hk)⟩⟩)) (hL.ext Ex.push) ⟨Or.inr ⟨q, hadr, rfl⟩, hS.ext Ex.push⟩ hV1 (hE.tr Ex.push) ⟨⟨hm1, ?_⟩, hm2, ?_⟩
        · show u1 g.1 g.2.2.1 (ci + 1) g.2.2.1 = ci + 1
          unfold u1
          rw [if_pos rfl]
        · show g.2.2.2.1 - 1 ≤ C0
          omega
        · show g.2.2.2.2 - fN ci ≤ S0
          omega
    · cases h
  · split at h
    · cases h
    · split at h
      · split at h
        · unfold fin at h; cases h
        · cases h
      · cases h
theorem z2_s {α : Type} {f : Nat → Nat → α} {a k : Nat} {v : α} : z2 f a v a k = v := by unfold z2; rw [if_pos rfl]
theorem u1_s {α : Type} {f : Nat → α} {a : Nat} {v : α} : u1 f a v a = v := by unfold u1; rw [if_pos rfl]
/-- behind the making of an array -/
theorem s_newK {kd n N : Nat} {tys tys' : List (ClassId × FieldType)} {ws : va_W} {H H1 : Heap} {locs : List Loc} {ls : Array Slot} {st : List Value} {q : Nat} {cA : ClassId} {a0 : vp_A} {S' : List Value}
    (hm : C1 ≤ g.2.2.2.1 - 1 ∧ S1 ≤ g.2.2.2.2 - N) (h1 : 1 ≤ g.2.2.2.1) (hN : N ≤ g.2.2.2.2) (hb : (C1 ≤ g.2.2.2.1 ∧ g.2.2.2.1 ≤ C0) ∧ (S1 ≤ g.2.2.2.2 ∧ g.2.2.2.2 ≤ S0)) (hH : HR D A sb Ls xs tys ws g mi ml mr H s) (hL : LR ws sb (mL M) L ls) (hS : FR ws sb S' st) (hE : Ex w0 ws) (hV1 : va_S A s.heap H1 locs) (hK : va_K D vwCl tys' s) (ht : ∀ y ∈ tys, y ∈ tys') (hP : va_P D vwCl (ws ++ [(q, .inl (cA, a0))]) H1) (hD : va_D A (ws ++ [(q, .inl (cA, a0))])) (hkd : kd < 30)
    (hc : CR tys' (ws ++ [(q, .inl (cA, a0))]) sb (newG g kd N (g.2.2.2.1 - 1) (g.2.2.2.2 - N)) (z2 mi g.2.2.1 0) (z2 ml g.2.2.1 0) (z2 mr g.2.2.1 0) g.2.2.1 (.inl (cA, a0)))
    (kk : Sat p l e R s m args below meth c Q D A sb Ls xs w0 (mL M) C0 S0 C1 S1 (n, L, .ref g.2.2.1 :: S', newH g mi ml mr kd N N)) : W p l e R s m args below meth c H1 locs (C0 - g.2.2.2.1 + 1) (S0 - g.2.2.2.2 + N) Q (F0 m n ls (.ref q :: st)) := by
  obtain ⟨⟨b1, b2⟩, b3, b4⟩ := hb
  refine W.cs (cells' := C0 - (g.2.2.2.1 - 1)) (slots' := S0 - (g.2.2.2.2 - N)) (by omega) (by omega) ?_
  have hn : g.2.2.1 = ws.length + 2 := hH.2.2.2.1
  have hadr : adr (ws ++ [(q, .inl (cA, a0))]) sb g.2.2.1 = some q := by
    unfold adr
    rw [if_neg (by omega), if_neg (by omega), hn, show ws.length + 2 - 2 = ws.length by omega, List.getElem?_append_right (Nat.le_refl _), Nat.sub_self]
    rfl
  refine kk tys' _ H1 locs ls (.ref q :: st) (hH.new rfl ht hK hP hD hkd (Or.inr trivial) hc) (hL.ext Ex.push) ⟨Or.inr ⟨q, hadr, rfl⟩, hS.ext Ex.push⟩ hV1 (hE.tr Ex.push) ⟨⟨hm.1, ?_⟩, hm.2, ?_⟩
  · show g.2.2.2.1 - 1 ≤ C0
    omega
  · show g.2.2.2.2 - N ≤ S0
    omega
theorem s_newa {t : ArrayType} (X : Cx p l R s m args meth c A sb Ls xs M d C0 S0 C1 S1) (hd : decode (mB M) pc = .ok (.newarray t, 2)) (h : i_newa (arK t) 2 pc L S g mi ml mr = some (.inl cf')) (hm : C1 ≤ cf'.2.2.2.1.2.2.2.1 ∧ S1 ≤ cf'.2.2.2.1.2.2.2.2) (kk : Sat p l e R s m args below meth c Q D A sb Ls xs w0 (mL M) C0 S0 C1 S1 cf') : Sat p l e R s m args below meth c Q D A sb Ls xs w0 (mL M) C0 S0 C1 S1 (pc, L, S, g, mi, ml, mr) := by
  unfold i_newa at h
  split at h
  · rename_i x S'
    split at h
    · rename_i kd hkd
      split at h
      · rename_i hr0
        obtain ⟨hx0, hx1, hr1, hr2⟩ := hr0
        have := nxt_inj h
        subst this
        have hm' : C1 ≤ g.2.2.2.1 - 1 ∧ S1 ≤ g.2.2.2.2 - x.toNatClampNeg := hm
        intro tys ws H locs ls st hH hL hS hV hE hb
        obtain ⟨w1, st1, rfl, h1, hS1⟩ := FR.cons hS
        cases h1.int
        have hx : ¬ x < 0 := Int32.not_lt.mpr hx0
        have ra := room_1x X.2.2.2.2.2.2.2.2.2.2.2.2.2.1 hm'.1 hr1 hb.1.2
        have rb := room_nx X.2.2.2.2.2.2.2.2.2.2.2.2.2.2.1 hm'.2 hr2 hb.2.2
        cases t with
        | int =>
          cases hkd
          refine va_newa (atype := .int) (ty := .int) (N' := x.toNatClampNeg) (a0 := (x.toNatClampNeg, .inl (fun _ => 0))) X.1 X.2.1 (X.2.2.2.2.1 _ (WS_of w_arI)) rfl hH.2.2.1 hH.1 hH.2.1 hV X.2.2.2.2.2.2.2.2.2.2.2.2.2.2.2.1 (fun _ => rfl) hx rfl (show _ * 4 ≤ _ by omega) ra rb hd (fun q cA H1 hK hP hD hV1 => ?_)
          exact s_newK hm' hr1 hr2 hb hH hL hS1 hE hV1 hK (fun y hy => List.mem_append_left _ hy) hP hD (by decide) (Or.inr (Or.inl ⟨cA, _, .int, Or.inl ⟨u1_s, rfl⟩, by rw [show (newG g 20 x.toNatClampNeg (g.2.2.2.1 - 1) (g.2.2.2.2 - x.toNatClampNeg)).2.1 g.2.2.1 = x.toNatClampNeg from u1_s], List.mem_append_right _ (List.mem_singleton.mpr rfl), fun j hj => by rw [z2_s]⟩)) kk
        | boolean =>
          cases hkd
          refine va_newa (atype := .boolean) (ty := .boolean) (N' := x.toNatClampNeg) (a0 := (x.toNatClampNeg, .inl (fun _ => 0))) X.1 X.2.1 (X.2.2.2.2.1 _ (WS_of w_arZ)) rfl hH.2.2.1 hH.1 hH.2.1 hV X.2.2.2.2.2.2.2.2.2.2.2.2.2.2.2.1 (fun _ => rfl) hx rfl (show _ * 1 ≤ _ by omega) ra rb hd (fun q cA H1 hK hP hD hV1 => ?_)
          exact s_newK hm' hr1 hr2 hb hH hL hS1 hE hV1 hK (fun y hy => List.mem_append_left _ hy) hP hD (by decide) (Or.inr (Or.inl ⟨cA, _, .boolean, Or.inr ⟨u1_s, rfl⟩, by rw [show (newG g 22 x.toNatClampNeg (g.2.2.2.1 - 1) (g.2.2.2.2 - x.toNatClampNeg)).2.1 g.2.2.1 = x.toNatClampNeg from u1_s], List.mem_append_right _ (List.mem_singleton.mpr rfl), fun j hj => by rw [z2_s]⟩)) kk
        | long =>
          cases hkd
          refine va_newa (atype := .long) (ty := .long) (N' := x.toNatClampNeg) (a0 := (x.toNatClampNeg, .inr (.inl (fun _ => 0)))) X.1 X.2.1 (X.2.2.2.2.1 _ (WS_of w_arL)) rfl hH.2.2.1 hH.1 hH.2.1 hV X.2.2.2.2.2.2.2.2.2.2.2.2.2.2.2.1 (fun _ => rfl) hx rfl (show _ * 8 ≤ _ by omega) ra rb hd (fun q cA H1 hK hP hD hV1 => ?_)
          exact s_newK hm' hr1 hr2 hb hH hL hS1 hE hV1 hK (fun y hy => List.mem_append_left _ hy) hP hD (by decide) (Or.inr (Or.inr (Or.inl ⟨cA, _, u1_s, by rw [show (newG g 21 x.toNatClampNeg (g.2.2.2.1 - 1) (g.2.2.2.2 - x.toNatClampNeg)).2.1 g.2.2.1 = x.toNatClampNeg from u1_s], List.mem_append_right _ (List.mem_singleton.mpr rfl), fun j hj => by rw [z2_s]⟩))) kk
        | _ => cases hkd
      · cases h
    · cases h
  · cases h
theorem s_anew {y : Nat} (X : Cx p l R s m args meth c A sb Ls xs M d C0 S0 C1 S1) (hd : decode (mB M) pc = .ok (.anewarray y, 3)) (h : i_newa (lkp (mO M) y aT) 3 pc L S g mi ml mr = some (.inl cf')) (hm : C1 ≤ cf'.2.2.2.1.2.2.2.1 ∧ S1 ≤ cf'.2.2.2.1.2.2.2.2) (kk : Sat p l e R s m args below meth c Q D A sb Ls xs w0 (mL M) C0 S0 C1 S1 cf') : Sat p l e R s m args below meth c Q D A sb Ls xs w0 (mL M) C0 S0 C1 S1 (pc, L, S, g, mi, ml, mr) := by
  unfold i_newa at h
  split at h
  · rename_i x S'
    split at h
    · rename_i kd hkd
      split at h
      · rename_i hr0
        obtain ⟨hx0, hx1, hr1, hr2⟩ := hr0
        have := nxt_inj h
        subst this
        have hm' : C1 ≤ g.2.2.2.1 - 1 ∧ S1 ≤ g.2.2.2.2 - x.toNatClampNeg := hm
        obtain ⟨hk3, hcl, -⟩ := aT_ok _ (lkp_mem hkd)
        dsimp only at hk3 hcl
        intro tys ws H locs ls st hH hL hS hV hE hb
        obtain ⟨w1, st1, rfl, h1, hS1⟩ := FR.cons hS
        cases h1.int
        have hx : ¬ x < 0 := Int32.not_lt.mpr hx0
        have ra := room_1x X.2.2.2.2.2.2.2.2.2.2.2.2.2.1 hm'.1 hr1 hb.1.2
        have rb := room_nx X.2.2.2.2.2.2.2.2.2.2.2.2.2.2.1 hm'.2 hr2 hb.2.2
        have hao := X.2.2.2.2.2.2.2.2.2.1.2.2.2.1 kd hk3
        have eln : (newG g kd x.toNatClampNeg (g.2.2.2.1 - 1) (g.2.2.2.2 - x.toNatClampNeg)).2.1 g.2.2.1 = x.toNatClampNeg := u1_s
        have ekd : (newG g kd x.toNatClampNeg (g.2.2.2.1 - 1) (g.2.2.2.2 - x.toNatClampNeg)).1 g.2.2.1 = kd := u1_s
        refine va_newq (C := cN (elC kd)) (N' := x.toNatClampNeg) X.1 X.2.1 X.2.2.2.1 (X.2.2.2.2.1 _ (WS_of hcl)) hao hH.2.2.1 hH.1 hH.2.1 hV X.2.2.2.2.2.2.2.2.2.2.2.2.2.2.2.1 hx rfl (by omega) ra rb hd (fun q cA H1 hK hP hD hV1 => ?_)
        refine s_newK hm' hr1 hr2 hb hH hL hS1 hE hV1 hK (fun y hy => List.mem_append_left _ hy) hP hD (by omega) (Or.inr (Or.inr (Or.inr ⟨cA, _, ?_, by rw [eln], ?_, fun j hj => ?_⟩))) kk
        · rw [ekd]; exact hk3
        · rw [ekd]; exact List.mem_append_right _ (List.mem_singleton.mpr rfl)
        · rw [z2_s]; exact Or.inl ⟨rfl, rfl⟩
      · cases h
    · cases h
  · cases h
theorem s_obj {x : Nat} {fe : Nat × Mth × Nat} (X : Cx p l R s m args meth c A sb Ls xs M d C0 S0 C1 S1) (hd : decode (mB M) pc = .ok (.invokespecial x, 3)) (hfe : lkp (mO M) x cT = some fe) (h5 : fe.1 = 5) (h : i_obj d pc L S g (g, mi, ml, mr) = some (.inl cf')) (kk : Sat p l e R s m args below meth c Q D A sb Ls xs w0 (mL M) C0 S0 C1 S1 cf') : Sat p l e R s m args below meth c Q D A sb Ls xs w0 (mL M) C0 S0 C1 S1 (pc, L, S, g, mi, ml, mr) := by
  unfold i_obj at h
  split at h
  · rename_i a S'
    split at h
    · rename_i hc0
      obtain ⟨hk0, hk1, hS4, hd1⟩ := hc0
      have := nxt_inj h
      subst this
      have hlk := (cT_ok _ (lkp_mem hfe)).2.2.2.2.2.1 h5
      intro tys ws H locs ls st hH hL hS hV hE hb
      obtain ⟨w1, st1, rfl, h1, hS1⟩ := FR.cons hS
      obtain ⟨-, q, -, -, hadr, -⟩ := hH.cell (rfl : g.1 a = g.1 a) hk0 hk1
      cases h1.addr hadr
      have hcat := hS1.cats
      have hfr := X.2.2.2.2.2.2.2.2.2.2.2.1
      have hlo := X.2.2.2.2.2.2.2.2.2.2.2.2.1
      refine W.objInit X.1 X.2.1 X.2.2.2.1 (X.2.2.2.2.1 _ (WS_of hlk)) (X.2.2.2.2.1 _ (WS_of w_objI)) (X.2.2.2.2.1 _ (WS_of w_objC)) rfl (by rw [X.2.2.1]; exact hL.1) rfl hd (by omega) (show 2 * 0 + _ + 12 ≤ _ by omega) ?_
      exact kk tys ws H locs ls st1 hH hL hS1 hV hE hb
    · cases h
  · cases h
theorem s_min {x : Nat} {fe : Nat × Mth × Nat} (X : Cx p l R s m args meth c A sb Ls xs M d C0 S0 C1 S1) (hd : decode (mB M) pc = .ok (.invokestatic x, 3)) (hfe : lkp (mO M) x cT = some fe) (h5 : fe.1 = 7) (h : i_min d pc L S (g, mi, ml, mr) = some (.inl cf')) (kk : Sat p l e R s m args below meth c Q D A sb Ls xs w0 (mL M) C0 S0 C1 S1 cf') : Sat p l e R s m args below meth c Q D A sb Ls xs w0 (mL M) C0 S0 C1 S1 (pc, L, S, g, mi, ml, mr) := by
  unfold i_min at h
  split at h
  · rename_i y x S'
    split at h
    · rename_i hc0
      obtain ⟨hS4, hd1⟩ := hc0
      have := nxt_inj h
      subst this
      have hlk := (cT_ok _ (lkp_mem hfe)).2.2.2.2.2.2.2 h5
      intro tys ws H locs ls st hH hL hS hV hE hb
      obtain ⟨w1, st1, rfl, h1, hS1⟩ := FR.cons hS
      obtain ⟨w2, st2, rfl, h2, hS2⟩ := FR.cons hS1
      cases h1.int
      cases h2.int
      have hcat := hS2.cats
      have hfr := X.2.2.2.2.2.2.2.2.2.2.2.1
      have hlo := X.2.2.2.2.2.2.2.2.2.2.2.2.1
      have ra := X.2.2.2.2.2.2.2.2.2.2.2.2.2.1
      have rb := X.2.2.2.2.2.2.2.2.2.2.2.2.2.2.1
      obtain ⟨⟨b1, b2⟩, b3, b4⟩ := hb
      dsimp only at b1 b2 b3 b4
      exact va_mmin X.1 X.2.1 (by rw [X.2.2.1]; exact hL.1.symm) X.2.2.2.1 (X.2.2.2.2.1 _ (WS_of hlk)) (X.2.2.2.2.1 _ (WS_of w_minS)) (X.2.2.2.2.1 _ (WS_of w_minI)) (X.2.2.2.2.1 _ (WS_of w_minC)) (by omega) (by omega) (by dsimp only; omega) (by dsimp only; omega) hd (kk tys ws H locs ls _ hH hL ⟨rfl, hS2⟩ hV hE ⟨⟨b1, b2⟩, b3, b4⟩)
    · cases h
  · cases h
theorem s_cpy {x : Nat} {fe : Nat × Mth × Nat} (X : Cx p l R s m args meth c A sb Ls xs M d C0 S0 C1 S1) (hd : decode (mB M) pc = .ok (.invokestatic x, 3)) (hfe : lkp (mO M) x cT = some fe) (h5 : fe.1 = 6) (h : i_cpy d pc L S g mi ml mr = some (.inl cf')) (kk : Sat p l e R s m args below meth c Q D A sb Ls xs w0 (mL M) C0 S0 C1 S1 cf') : Sat p l e R s m args below meth c Q D A sb Ls xs w0 (mL M) C0 S0 C1 S1 (pc, L, S, g, mi, ml, mr) := by
  unfold i_cpy at h
  split at h
  · rename_i z dp b sp a S'
    split at h
    · rename_i hc0
      obtain ⟨ka, kb, h1, h2, h3, h4, h6, hS4, hd1⟩ := hc0
      have := nxt_inj h
      subst this
      have hlk := (cT_ok _ (lkp_mem hfe)).2.2.2.2.2.2.1 h5
      intro tys ws H locs ls st hH hL hS hV hE hb
      obtain ⟨w1, st1, rfl, v1, hS1⟩ := FR.cons hS
      obtain ⟨w2, st2, rfl, v2, hS2⟩ := FR.cons hS1
      obtain ⟨w3, st3, rfl, v3, hS3⟩ := FR.cons hS2
      obtain ⟨w4, st4, rfl, v4, hS4'⟩ := FR.cons hS3
      obtain ⟨w5, st5, rfl, v5, hS5⟩ := FR.cons hS4'
      cases v1.int
      cases v2.int
      cases v4.int
      obtain ⟨ha2, qa, ea, hwa, hadra, hca⟩ := hH.cell ka (by omega) (by omega)
      obtain ⟨cA, f, rfl, hta, hfa⟩ := hca.arI ka (Or.inl rfl)
      obtain ⟨hb2, qb, eb, hwb, hadrb, hcb⟩ := hH.cell kb (by omega) (by omega)
      obtain ⟨cB, f2, rfl, htb, hfb⟩ := hcb.arI kb (Or.inl rfl)
      cases v5.addr hadra
      cases v3.addr hadrb
      have hta : (cA, FieldType.int) ∈ tys := hta
      have htb : (cB, FieldType.int) ∈ tys := htb
      obtain ⟨t0, ht0⟩ := List.getElem?_of_mem hta
      obtain ⟨t1, ht1⟩ := List.getElem?_of_mem htb
      have hcat := hS5.cats
      have hfr := X.2.2.2.2.2.2.2.2.2.2.2.1
      have hlo := X.2.2.2.2.2.2.2.2.2.2.2.2.1
      have hnw : nativeFrameWords "java/lang/System" "arraycopy" 5 + 11 ≤ 100 := by decide +kernel
      refine va_copyi (ty := .int) X.1 X.2.1 (by rw [X.2.2.1]; exact hL.1.symm) X.2.2.2.1 (X.2.2.2.2.1 _ (WS_of hlk)) (X.2.2.2.2.1 _ (WS_of w_cpyN)) (X.2.2.2.2.1 _ (WS_of w_cpyS)) (X.2.2.2.2.1 _ (WS_of w_cpyI)) hH.2.2.1 hH.1 hH.2.1 hV (a - 2) (b - 2) t0 t1 hwa hwb ht0 ht1 rfl (Int32.not_lt.mpr h1) (Int32.not_lt.mpr h2) (Int32.not_lt.mpr h3) h4 h6 (fun _ _ => rfl) (by omega) (by omega) hd (fun H1 locs1 hP hD hV1 => kk tys _ H1 locs1 ls st5 (hH.upd (mi' := r2 mi b (cpyI (mi a) (mi b) sp.toNatClampNeg dp.toNatClampNeg z.toNatClampNeg)) (ml' := ml) (mr' := mr) hb2 hwb hP hD (fun b' j hb' => by unfold r2; rw [if_neg hb']) (fun _ _ _ => rfl) (fun _ _ _ => rfl) ?_) (hL.ext (Ex.set hwb)) (hS5.ext (Ex.set hwb)) hV1 (hE.tr (Ex.set hwb)) hb)
      refine Or.inr (Or.inl ⟨cB, _, .int, Or.inl ⟨kb, rfl⟩, rfl, htb, fun j hj => ?_⟩)
      have hj : j < g.2.1 b := hj
      have h4 : sp.toNatClampNeg + z.toNatClampNeg ≤ g.2.1 a := h4
      unfold r2 cpyI va_cpy
      rw [if_pos rfl]
      by_cases hjr : dp.toNatClampNeg ≤ j ∧ j < dp.toNatClampNeg + z.toNatClampNeg
      · rw [if_pos hjr, if_pos hjr]
        exact hfa _ (by show _ < g.2.1 a; omega)
      · rw [if_neg hjr, if_neg hjr]
        exact hfb j hj
    · cases h
  · cases h
end SND4
