/-! every instruction goes on as the small machine's does -/
section SND7
variable {p : Program} {l : Launch} {e : Env} {R : Room} {s : State} {m : MethodId} {args : Array Value} {below : List Frame} {meth : Method} {c : Code} {Q : State → Prop}
variable {D : va_G} {A : Nat → Prop} {sb Ls : Nat} {xs : Nat → Int32} {w0 : va_W} {M M' : Mth} {d C0 S0 C1 S1 : Nat} {cl : CallF} {cf' : Cf} {pc : Nat} {L S : List Value} {g : Gh} {mi : MI} {ml : ML} {mr : MR}
theorem aft_gx {r : Res} {S' : List Value} {x : Cf ⊕ Res} (h : aft M pc L S' (some r) = some x) : gx x = r.2.1 := by
  unfold aft at h
  split at h
  · rename_i h9; cases h9
  · rename_i h' h9; cases h9; unfold nxt at h; cases h; rfl
  · rename_i v h' h9; cases h9; unfold nxt at h; cases h; rfl
  · rename_i E h' h9
    cases h9
    split at h
    · unfold fin at h; cases h; rfl
    · split at h
      · cases h
      · unfold nxt at h; cases h; rfl
theorem s_call {S' : List Value} {r : Option Res} (X : Cx p l R s m args meth c A sb Ls xs M d C0 S0 C1 S1)
    (hrun : ∀ (r' : Res) (tys : List (ClassId × FieldType)) (ws : va_W) (H : Heap) (locs : List Loc) (ls : Array Slot) (st : List Value), r = some r' → HR D A sb Ls xs tys ws g mi ml mr H s → LR ws sb (mL M) L ls → FR ws sb S st → va_S A s.heap H locs → (C1 ≤ g.2.2.2.1 ∧ g.2.2.2.1 ≤ C0) ∧ (S1 ≤ g.2.2.2.2 ∧ g.2.2.2.2 ≤ S0) → (C1 ≤ r'.2.1.2.2.2.1 ∧ r'.2.1.2.2.2.1 ≤ g.2.2.2.1) ∧ (S1 ≤ r'.2.1.2.2.2.2 ∧ r'.2.1.2.2.2.2 ≤ g.2.2.2.2) →
      ∃ (rest : List Value) (arr : Array Value), FR ws sb S' rest ∧ vx_Run p l e R s m args below meth c H locs (C0 - g.2.2.2.1) (S0 - g.2.2.2.2) (g.2.2.2.1 - r'.2.1.2.2.2.1) (g.2.2.2.2 - r'.2.1.2.2.2.2) (F0 m pc ls st) rest (cQ D A sb Ls xs ws r' arr) (cX D A sb Ls xs ws r') A)
    (hle : ∀ r', r = some r' → Le r'.2.1 g) (h : aft M pc L S' r = some (.inl cf')) (hm : C1 ≤ cf'.2.2.2.1.2.2.2.1 ∧ S1 ≤ cf'.2.2.2.1.2.2.2.2) (kk : Sat p l e R s m args below meth c Q D A sb Ls xs w0 (mL M) C0 S0 C1 S1 cf') : Sat p l e R s m args below meth c Q D A sb Ls xs w0 (mL M) C0 S0 C1 S1 (pc, L, S, g, mi, ml, mr) := by
  cases r with
  | none => unfold aft at h; cases h
  | some r =>
    have hg : cf'.2.2.2.1 = r.2.1 := aft_gx h
    rw [hg] at hm
    have h1 := hle r rfl
    intro tys ws H locs ls st hH hL hS hV hE hb
    have hb' : (C1 ≤ g.2.2.2.1 ∧ g.2.2.2.1 ≤ C0) ∧ (S1 ≤ g.2.2.2.2 ∧ g.2.2.2.2 ≤ S0) := hb
    have h2 : r.2.1.2.2.2.1 ≤ g.2.2.2.1 := h1.1
    have h3 : r.2.1.2.2.2.2 ≤ g.2.2.2.2 := h1.2
    obtain ⟨rest, arr, hrest, hr⟩ := hrun r tys ws H locs ls st rfl hH hL hS hV hb' ⟨⟨hm.1, h2⟩, hm.2, h3⟩
    exact s_aft X hr hV hE hL hrest (by dsimp only; omega) (by dsimp only; omega) (by omega) h kk
theorem f_call (hnl : isL M = false) {S' : List Value} {r : Option Res} {r0 : Res} (X : Cx p l R s m args meth c A sb Ls xs M d C0 S0 r0.2.1.2.2.2.1 r0.2.1.2.2.2.2)
    (hrun : ∀ (r' : Res) (tys : List (ClassId × FieldType)) (ws : va_W) (H : Heap) (locs : List Loc) (ls : Array Slot) (st : List Value), r = some r' → HR D A sb Ls xs tys ws g mi ml mr H s → LR ws sb (mL M) L ls → FR ws sb S st → va_S A s.heap H locs → (r0.2.1.2.2.2.1 ≤ g.2.2.2.1 ∧ g.2.2.2.1 ≤ C0) ∧ (r0.2.1.2.2.2.2 ≤ g.2.2.2.2 ∧ g.2.2.2.2 ≤ S0) → (r0.2.1.2.2.2.1 ≤ r'.2.1.2.2.2.1 ∧ r'.2.1.2.2.2.1 ≤ g.2.2.2.1) ∧ (r0.2.1.2.2.2.2 ≤ r'.2.1.2.2.2.2 ∧ r'.2.1.2.2.2.2 ≤ g.2.2.2.2) →
      ∃ (rest : List Value) (arr : Array Value), FR ws sb S' rest ∧ vx_Run p l e R s m args below meth c H locs (C0 - g.2.2.2.1) (S0 - g.2.2.2.2) (g.2.2.2.1 - r'.2.1.2.2.2.1) (g.2.2.2.2 - r'.2.1.2.2.2.2) (F0 m pc ls st) rest (cQ D A sb Ls xs ws r' arr) (cX D A sb Ls xs ws r') A)
    (hle : ∀ r', r = some r' → Le r'.2.1 g) (h : aft M pc L S' r = some (.inr r0)) : Sat p l e R s m args below meth c (vx_MQ below (cQ D A sb Ls xs w0 r0) (cX D A sb Ls xs w0 r0) args s (C0 - r0.2.1.2.2.2.1) (S0 - r0.2.1.2.2.2.2) A) D A sb Ls xs w0 (mL M) C0 S0 r0.2.1.2.2.2.1 r0.2.1.2.2.2.2 (pc, L, S, g, mi, ml, mr) := by
  cases r with
  | none => unfold aft at h; cases h
  | some r =>
    have hg : r0.2.1 = r.2.1 := aft_gx h
    have h1 := hle r rfl
    intro tys ws H locs ls st hH hL hS hV hE hb
    have hb' : (r0.2.1.2.2.2.1 ≤ g.2.2.2.1 ∧ g.2.2.2.1 ≤ C0) ∧ (r0.2.1.2.2.2.2 ≤ g.2.2.2.2 ∧ g.2.2.2.2 ≤ S0) := hb
    have h2 : r.2.1.2.2.2.1 ≤ g.2.2.2.1 := h1.1
    have h3 : r.2.1.2.2.2.2 ≤ g.2.2.2.2 := h1.2
    obtain ⟨rest, arr, hrest, hr⟩ := hrun r tys ws H locs ls st rfl hH hL hS hV hb' ⟨⟨by rw [hg]; exact Nat.le_refl _, h2⟩, by rw [hg]; exact Nat.le_refl _, h3⟩
    exact f_aft hnl X hr hV hE (by dsimp only; rw [hg]; omega) (by dsimp only; rw [hg]; omega) h
/-- the three kinds of call, as the small machine has them -/
theorem inv_V {x k kd a : Nat} {S' : List Value} {r' : Res} {tys : List (ClassId × FieldType)} {ws : va_W} {H : Heap} {locs : List Loc} {ls : Array Slot} {st : List Value} (X : Cx p l R s m args meth c A sb Ls xs M d C0 S0 C1 S1) (hcl : ∀ d', d = d' + 1 → CO d' cl) (h0 : d = 0 → ∀ M as h, cl M as h = none) (hd : (decode (mB M) pc = .ok (.invokevirtual x, 3) ∧ Nat.beq kd 0 = true) ∨ (decode (mB M) pc = .ok (.invokespecial x, 3) ∧ (Nat.beq kd 2 || Nat.beq kd 3) = true)) (hfe : lkp (mO M) x cT = some (kd, M', k)) (hdr : S.drop (k - 1) = .ref a :: S') (hk1 : 1 ≤ k) (ha : g.1 a = mO M' + 1) (hS4 : catS S' ≤ 8) (hkl : k ≤ S.length) (hr : cl M' (S.take k).reverse (g, mi, ml, mr) = some r')
    (hH : HR D A sb Ls xs tys ws g mi ml mr H s) (hL : LR ws sb (mL M) L ls) (hS : FR ws sb S st) (hV : va_S A s.heap H locs) (hb : (C1 ≤ g.2.2.2.1 ∧ g.2.2.2.1 ≤ C0) ∧ (S1 ≤ g.2.2.2.2 ∧ g.2.2.2.2 ≤ S0)) (hm : (C1 ≤ r'.2.1.2.2.2.1 ∧ r'.2.1.2.2.2.1 ≤ g.2.2.2.1) ∧ (S1 ≤ r'.2.1.2.2.2.2 ∧ r'.2.1.2.2.2.2 ≤ g.2.2.2.2)) :
    ∃ (rest : List Value) (arr : Array Value), FR ws sb S' rest ∧ vx_Run p l e R s m args below meth c H locs (C0 - g.2.2.2.1) (S0 - g.2.2.2.2) (g.2.2.2.1 - r'.2.1.2.2.2.1) (g.2.2.2.2 - r'.2.1.2.2.2.2) (F0 m pc ls st) rest (cQ D A sb Ls xs ws r' arr) (cX D A sb Ls xs ws r') A := by
  cases d with
  | zero => rw [h0 rfl] at hr; cases hr
  | succ d' =>
    rcases hd with ⟨hd, hk⟩ | ⟨hd, hk⟩
    · have : kd = 0 := Nat.eq_of_beq_eq_true hk
      subst this
      exact run_V X (hcl d' rfl) rfl hd hfe hr hk1 hkl hdr ha hS4 hH hL hS hV hb hm
    · rw [Bool.or_eq_true] at hk
      exact run_I X (hcl d' rfl) rfl hd hfe (hk.imp Nat.eq_of_beq_eq_true Nat.eq_of_beq_eq_true) hr hk1 hkl hdr ha hS4 hH hL hS hV hb hm
theorem inv_S {x k kd : Nat} {r' : Res} {tys : List (ClassId × FieldType)} {ws : va_W} {H : Heap} {locs : List Loc} {ls : Array Slot} {st : List Value} (X : Cx p l R s m args meth c A sb Ls xs M d C0 S0 C1 S1) (hcl : ∀ d', d = d' + 1 → CO d' cl) (h0 : d = 0 → ∀ M as h, cl M as h = none) (hd : decode (mB M) pc = .ok (.invokestatic x, 3)) (hfe : lkp (mO M) x cT = some (kd, M', k)) (hk : kd = 1 ∨ kd = 4) (hS4 : catS (S.drop k) ≤ 8) (hkl : k ≤ S.length) (hr : cl M' (S.take k).reverse (g, mi, ml, mr) = some r')
    (hH : HR D A sb Ls xs tys ws g mi ml mr H s) (hL : LR ws sb (mL M) L ls) (hS : FR ws sb S st) (hV : va_S A s.heap H locs) (hb : (C1 ≤ g.2.2.2.1 ∧ g.2.2.2.1 ≤ C0) ∧ (S1 ≤ g.2.2.2.2 ∧ g.2.2.2.2 ≤ S0)) (hm : (C1 ≤ r'.2.1.2.2.2.1 ∧ r'.2.1.2.2.2.1 ≤ g.2.2.2.1) ∧ (S1 ≤ r'.2.1.2.2.2.2 ∧ r'.2.1.2.2.2.2 ≤ g.2.2.2.2)) :
    ∃ (rest : List Value) (arr : Array Value), FR ws sb (S.drop k) rest ∧ vx_Run p l e R s m args below meth c H locs (C0 - g.2.2.2.1) (S0 - g.2.2.2.2) (g.2.2.2.1 - r'.2.1.2.2.2.1) (g.2.2.2.2 - r'.2.1.2.2.2.2) (F0 m pc ls st) rest (cQ D A sb Ls xs ws r' arr) (cX D A sb Ls xs ws r') A := by
  cases d with
  | zero => rw [h0 rfl] at hr; cases hr
  | succ d' => exact run_S X (hcl d' rfl) rfl hd hfe hk hr hkl hS4 hH hL hS hV hb hm
theorem isR_ref {v : Value} (h : isR v = true) : ∃ a, v = .ref a := by
  cases v with
  | ref a => exact ⟨a, rfl⟩
  | _ => cases h
theorem isI_int {v : Value} (h : isI v = true) : ∃ a, v = .int a := by
  cases v with
  | int a => exact ⟨a, rfl⟩
  | _ => cases h
theorem isJ_lng {v : Value} (h : isJ v = true) : ∃ a, v = .long a := by
  cases v with
  | long a => exact ⟨a, rfl⟩
  | _ => cases h
theorem isO_ref {ws : va_W} {v w : Value} (h : isO v = true) (hv : VR ws sb v w) : w = .null ∨ ∃ q, w = .ref q := by
  cases v with
  | ref a => exact hv.elim (fun h => Or.inl h.2) (fun ⟨q, _, h⟩ => Or.inr ⟨q, h⟩)
  | retAddr a => exact Or.inr hv
  | _ => cases h
theorem i_k_eq {α : Type} {o : Option α} {f : α → Value} {n : Nat} {x : Cf ⊕ Res} {h : Hh} (e : i_k o f n pc L S h = some x) : ∃ v, o = some v ∧ i_k o f n pc L S h = nxt (pc + n) L (f v :: S) h := by
  unfold i_k at e ⊢
  split at e
  · rename_i v
    exact ⟨v, rfl, rfl⟩
  · cases e
theorem s_inc {k : Nat} {y : Int} (X : Cx p l R s m args meth c A sb Ls xs M d C0 S0 C1 S1) (hd : decode (mB M) pc = .ok (.iinc k y, 3)) (h : i_inc k y pc L S (g, mi, ml, mr) = some (.inl cf')) (kk : Sat p l e R s m args below meth c Q D A sb Ls xs w0 (mL M) C0 S0 C1 S1 cf') : Sat p l e R s m args below meth c Q D A sb Ls xs w0 (mL M) C0 S0 C1 S1 (pc, L, S, g, mi, ml, mr) := by
  unfold i_inc at h
  split at h
  · rename_i a hv
    cases hc : okst L k with
    | false => rw [hc] at h; cases h
    | true =>
      rw [hc] at h
      have := nxt_inj h
      subst this
      intro tys ws H locs ls st hH hL hS hV hE hb
      obtain ⟨w, h1, h2⟩ := hL.2.2.2 k _ hv (fun e => by cases e)
      cases h1.int
      obtain ⟨j, hj⟩ := List.getElem?_of_mem (lvL_mem.mpr h2)
      exact lv_iinc X.1 X.2.1 hd (lvL_has hL) hj rfl (by rw [← hL.2.1]; exact okst_lt hc) rfl (fun ls' hl' => kk tys ws H locs ls' st hH (hL.store hc rfl hl') hS hV hE hb)
  · cases h
theorem snd_step {i : Instr} {n : Nat} (X : Cx p l R s m args meth c A sb Ls xs M d C0 S0 C1 S1) (hcl : ∀ d', d = d' + 1 → CO d' cl) (h0 : d = 0 → ∀ M as h, cl M as h = none) (hcm : CM cl) (hd : decode (mB M) pc = .ok (i, n)) (hn : n = ilen i n) (h : stI cl d M i pc L S g mi ml mr = some (.inl cf')) (hm : C1 ≤ cf'.2.2.2.1.2.2.2.1 ∧ S1 ≤ cf'.2.2.2.1.2.2.2.2) (kk : Sat p l e R s m args below meth c Q D A sb Ls xs w0 (mL M) C0 S0 C1 S1 cf') : Sat p l e R s m args below meth c Q D A sb Ls xs w0 (mL M) C0 S0 C1 S1 (pc, L, S, g, mi, ml, mr) := by
  cases i with
  | aload_n k =>
    have hn1 : n = 1 := hn; subst hn1
    refine s_ld (k := k.val) (n := 1) (fun {H locs cells slots ls rest ws v w} hc hv hl kw => ?_) rfl h kk
    obtain ⟨a, rfl⟩ := isR_ref hc
    rcases hv with ⟨-, rfl⟩ | ⟨q, -, rfl⟩
    · exact lv_aload_nN X.1 X.2.1 hd rfl hl kw
    · exact lv_aload_n X.1 X.2.1 hd rfl hl kw
  | aload k =>
    have hn1 : n = 2 := hn; subst hn1
    refine s_ld (k := k) (n := 2) (fun {H locs cells slots ls rest ws v w} hc hv hl kw => ?_) rfl h kk
    obtain ⟨a, rfl⟩ := isR_ref hc
    rcases hv with ⟨-, rfl⟩ | ⟨q, -, rfl⟩
    · exact lv_aloadN X.1 X.2.1 hd hl kw
    · exact lv_aload X.1 X.2.1 hd hl kw
  | iload_n k =>
    have hn1 : n = 1 := hn; subst hn1
    refine s_ld (k := k.val) (n := 1) (fun {H locs cells slots ls rest ws v w} hc hv hl kw => ?_) rfl h kk
    obtain ⟨a, rfl⟩ := isI_int hc
    cases hv.int
    exact lv_iload_n X.1 X.2.1 hd rfl hl kw
  | iload k =>
    have hn1 : n = 2 := hn; subst hn1
    refine s_ld (k := k) (n := 2) (fun {H locs cells slots ls rest ws v w} hc hv hl kw => ?_) rfl h kk
    obtain ⟨a, rfl⟩ := isI_int hc
    cases hv.int
    exact lv_iload X.1 X.2.1 hd hl kw
  | lload_n k =>
    have hn1 : n = 1 := hn; subst hn1
    refine s_ld (k := k.val) (n := 1) (fun {H locs cells slots ls rest ws v w} hc hv hl kw => ?_) rfl h kk
    obtain ⟨a, rfl⟩ := isJ_lng hc
    cases hv.lng
    exact lv_lload_n X.1 X.2.1 hd rfl hl kw
  | lload k =>
    have hn1 : n = 2 := hn; subst hn1
    refine s_ld (k := k) (n := 2) (fun {H locs cells slots ls rest ws v w} hc hv hl kw => ?_) rfl h kk
    obtain ⟨a, rfl⟩ := isJ_lng hc
    cases hv.lng
    exact lv_lload X.1 X.2.1 hd hl kw
  | istore_n k =>
    have hn1 : n = 1 := hn; subst hn1
    refine s_st (k := k.val) (n := 1) (fun {H locs cells slots ls rest ws v w} hc hv hlt hl kw => ?_) h kk
    obtain ⟨a, rfl⟩ := isI_int hc
    cases hv.int
    exact lv_istore_n X.1 X.2.1 hd rfl hl hlt rfl kw
  | istore k =>
    have hn1 : n = 2 := hn; subst hn1
    refine s_st (k := k) (n := 2) (fun {H locs cells slots ls rest ws v w} hc hv hlt hl kw => ?_) h kk
    obtain ⟨a, rfl⟩ := isI_int hc
    cases hv.int
    exact lv_istore X.1 X.2.1 hd hl hlt rfl kw
  | astore_n k =>
    have hn1 : n = 1 := hn; subst hn1
    refine s_st (k := k.val) (n := 1) (fun {H locs cells slots ls rest ws v w} hc hv hlt hl kw => ?_) h kk
    rcases isO_ref hc hv with rfl | ⟨q, rfl⟩
    · exact lv_astore_nN X.1 X.2.1 hd rfl hl hlt rfl kw
    · exact lv_astore_n X.1 X.2.1 hd rfl hl hlt rfl kw
  | astore k =>
    have hn1 : n = 2 := hn; subst hn1
    refine s_st (k := k) (n := 2) (fun {H locs cells slots ls rest ws v w} hc hv hlt hl kw => ?_) h kk
    rcases isO_ref hc hv with rfl | ⟨q, rfl⟩
    · exact lv_astoreN X.1 X.2.1 hd hl hlt rfl kw
    · exact lv_astore X.1 X.2.1 hd hl hlt rfl kw
  | lstore_n k =>
    have hn1 : n = 1 := hn; subst hn1
    exact s_stL (k := k.val) (n := 1) (fun {H locs cells slots ls rest y} hlt hl kw => lv_lstore_n X.1 X.2.1 hd rfl hl hlt rfl kw) h kk
  | lstore k =>
    have hn1 : n = 2 := hn; subst hn1
    exact s_stL (k := k) (n := 2) (fun {H locs cells slots ls rest y} hlt hl kw => lv_lstore X.1 X.2.1 hd hl hlt rfl kw) h kk
  | iinc k y => have hn1 : n = 3 := hn; subst hn1; exact s_inc X hd h kk
  | iconst y => have hn1 : n = 1 := hn; subst hn1; exact s_push (n := 1) (v := .int (Int32.ofInt y)) (fun _ => rfl) (fun kw => lv_iconst X.1 X.2.1 hd rfl kw) rfl h kk
  | bipush y => have hn1 : n = 2 := hn; subst hn1; exact s_push (n := 2) (v := .int (Int8.ofInt y).toInt32) (fun _ => rfl) (fun kw => lv_bipush X.1 X.2.1 hd rfl kw) rfl h kk
  | sipush y => have hn1 : n = 3 := hn; subst hn1; exact s_push (n := 3) (v := .int (Int16.ofInt y).toInt32) (fun _ => rfl) (fun kw => lv_sipush X.1 X.2.1 hd rfl kw) rfl h kk
  | lconst y => have hn1 : n = 1 := hn; subst hn1; exact s_push (n := 1) (v := .long (Int64.ofNat y.val)) (fun _ => rfl) (fun kw => lv_lconst X.1 X.2.1 hd rfl kw) rfl h kk
  | ldc y =>
    have hn1 : n = 2 := hn; subst hn1
    have h : i_k (lkp (mO M) y iT) .int 2 pc L S (g, mi, ml, mr) = some (.inl cf') := h
    obtain ⟨v, hv, he⟩ := i_k_eq h
    exact s_push (n := 2) (v := .int v) (fun _ => rfl) (fun {H locs cells slots ls rest} kw => W.ldc X.1 X.2.1 X.2.2.2.1 (X.2.2.2.2.1 _ (WS_of (iT_ok _ (lkp_mem hv)))) rfl hd kw) he h kk
  | ldc2_w y =>
    have hn1 : n = 3 := hn; subst hn1
    have h : i_k (lkp (mO M) y kT) .long 3 pc L S (g, mi, ml, mr) = some (.inl cf') := h
    obtain ⟨v, hv, he⟩ := i_k_eq h
    exact s_push (n := 3) (v := .long v) (fun _ => rfl) (fun {H locs cells slots ls rest} kw => lv_ldc2 X.1 X.2.1 X.2.2.2.1 (X.2.2.2.2.1 _ (WS_of (kT_ok _ (lkp_mem hv)))) hd kw) he h kk
  | dup => have hn1 : n = 1 := hn; subst hn1; exact s_dup X hd h kk
  | dup2 => have hn1 : n = 1 := hn; subst hn1; exact s_dup2 X hd h kk
  | iadd => have hn1 : n = 1 := hn; subst hn1; exact s_opI (fun kw => lv_iadd X.1 X.2.1 hd kw) h kk
  | isub => have hn1 : n = 1 := hn; subst hn1; exact s_opI (fun kw => lv_isub X.1 X.2.1 hd kw) h kk
  | imul => have hn1 : n = 1 := hn; subst hn1; exact s_opI (fun kw => lv_imul X.1 X.2.1 hd kw) h kk
  | iand => have hn1 : n = 1 := hn; subst hn1; exact s_opI (fun kw => lv_iand X.1 X.2.1 hd kw) h kk
  | ior => have hn1 : n = 1 := hn; subst hn1; exact s_opI (fun kw => lv_ior X.1 X.2.1 hd kw) h kk
  | ishl => have hn1 : n = 1 := hn; subst hn1; exact s_opI (fun kw => lv_ishl X.1 X.2.1 hd kw) h kk
  | ishr => have hn1 : n = 1 := hn; subst hn1; exact s_opI (fun kw => lv_ishr X.1 X.2.1 hd kw) h kk
  | idiv => have hn1 : n = 1 := hn; subst hn1; exact s_dvI (fun hy kw => lv_idiv X.1 X.2.1 hd hy kw) h kk
  | irem => have hn1 : n = 1 := hn; subst hn1; exact s_dvI (fun hy kw => lv_irem X.1 X.2.1 hd hy kw) h kk
  | ladd => have hn1 : n = 1 := hn; subst hn1; exact s_opL (fun kw => lv_ladd X.1 X.2.1 hd kw) h kk
  | lsub => have hn1 : n = 1 := hn; subst hn1; exact s_opL (fun kw => lv_lsub X.1 X.2.1 hd kw) h kk
  | lmul => have hn1 : n = 1 := hn; subst hn1; exact s_opL (fun kw => lv_lmul X.1 X.2.1 hd kw) h kk
  | ldiv => have hn1 : n = 1 := hn; subst hn1; exact s_dvL (fun hy kw => lv_ldiv X.1 X.2.1 hd hy kw) h kk
  | lrem => have hn1 : n = 1 := hn; subst hn1; exact s_dvL (fun hy kw => lv_lrem X.1 X.2.1 hd hy kw) h kk
  | lcmp => have hn1 : n = 1 := hn; subst hn1; exact s_lcmp X hd h kk
  | i2l => have hn1 : n = 1 := hn; subst hn1; exact s_i2l X hd h kk
  | l2i => have hn1 : n = 1 := hn; subst hn1; exact s_l2i X hd h kk
  | goto off => have hn1 : n = 3 := hn; subst hn1; exact s_goto X hd h kk
  | ifCond op off => have hn1 : n = 3 := hn; subst hn1; exact s_if X hd h kk
  | if_icmp op off => have hn1 : n = 3 := hn; subst hn1; exact s_icmp X hd h kk
  | tableswitch df lo hi offs => exact s_tab X hd h kk
  | getfield y => have hn1 : n = 3 := hn; subst hn1; exact s_getf X hd h kk
  | putfield y => have hn1 : n = 3 := hn; subst hn1; exact s_putf X hd h kk
  | iaload => have hn1 : n = 1 := hn; subst hn1; exact s_iald X (Or.inl ⟨rfl, hd⟩) h kk
  | baload => have hn1 : n = 1 := hn; subst hn1; exact s_iald X (Or.inr ⟨rfl, hd⟩) h kk
  | laload => have hn1 : n = 1 := hn; subst hn1; exact s_lald X hd h kk
  | aaload => have hn1 : n = 1 := hn; subst hn1; exact s_aald X hd h kk
  | iastore => have hn1 : n = 1 := hn; subst hn1; exact s_iast X hd h kk
  | bastore => have hn1 : n = 1 := hn; subst hn1; exact s_bast X hd h kk
  | lastore => have hn1 : n = 1 := hn; subst hn1; exact s_last X hd h kk
  | aastore => have hn1 : n = 1 := hn; subst hn1; exact s_aast X hd h kk
  | arraylength => have hn1 : n = 1 := hn; subst hn1; exact s_len X hd h kk
  | new y => have hn1 : n = 3 := hn; subst hn1; exact s_new X hd h hm kk
  | newarray t => have hn1 : n = 2 := hn; subst hn1; exact s_newa X hd h hm kk
  | anewarray y => have hn1 : n = 3 := hn; subst hn1; exact s_anew X hd h hm kk
  | invokevirtual y =>
    have hn1 : n = 3 := hn; subst hn1
    have h : i_inv cl M y pc L S g (g, mi, ml, mr) = some (.inl cf') := h
    unfold i_inv at h
    split at h
    · rename_i fe hfe
      unfold i_callV at h
      split at h
      · rename_i a S' hdr
        split at h
        · rename_i hc
          exact s_call X (fun r' tys ws H locs ls st hr hH hL hS hV hb hm => inv_V X hcl h0 (Or.inl ⟨hd, hc.1⟩) hfe hdr hc.2.1 hc.2.2.1 hc.2.2.2.1 hc.2.2.2.2 hr hH hL hS hV hb hm) (fun r' hr => hcm _ _ (g, mi, ml, mr) _ hr) h hm kk
        · cases h
      · cases h
    · cases h
  | invokestatic y =>
    have hn1 : n = 3 := hn; subst hn1
    have h : i_invS cl d M y pc L S g mi ml mr = some (.inl cf') := h
    unfold i_invS at h
    split at h
    · rename_i fe hfe
      cases h6 : Nat.beq fe.1 6
      · rw [h6] at h
        simp only [cond_false] at h
        cases h7 : Nat.beq fe.1 7
        · rw [h7] at h
          simp only [cond_false] at h
          unfold i_callS at h
          split at h
          · rename_i hc
            exact s_call X (fun r' tys ws H locs ls st hr hH hL hS hV hb hm => inv_S X hcl h0 hd hfe hc.1 hc.2.1 hc.2.2 hr hH hL hS hV hb hm) (fun r' hr => hcm _ _ (g, mi, ml, mr) _ hr) h hm kk
          · cases h
        · rw [h7] at h
          exact s_min X hd hfe (Nat.eq_of_beq_eq_true h7) h kk
      · rw [h6] at h
        exact s_cpy X hd hfe (Nat.eq_of_beq_eq_true h6) h kk
    · cases h
  | invokespecial y =>
    have hn1 : n = 3 := hn; subst hn1
    have h : i_invP cl d M y pc L S g (g, mi, ml, mr) = some (.inl cf') := h
    unfold i_invP at h
    split at h
    · rename_i fe hfe
      cases h5 : Nat.beq fe.1 5
      · rw [h5] at h
        simp only [cond_false] at h
        unfold i_callV at h
        split at h
        · rename_i a S' hdr
          split at h
          · rename_i hc
            exact s_call X (fun r' tys ws H locs ls st hr hH hL hS hV hb hm => inv_V X hcl h0 (Or.inr ⟨hd, hc.1⟩) hfe hdr hc.2.1 hc.2.2.1 hc.2.2.2.1 hc.2.2.2.2 hr hH hL hS hV hb hm) (fun r' hr => hcm _ _ (g, mi, ml, mr) _ hr) h hm kk
          · cases h
        · cases h
      · rw [h5] at h
        exact s_obj X hd hfe (Nat.eq_of_beq_eq_true h5) h kk
    · cases h
  | ireturn => exfalso; have h : i_iret M S (g, mi, ml, mr) = some (.inl cf') := h; unfold i_iret fin at h; split at h <;> first | (cases h; done) | (split at h <;> cases h)
  | lreturn => exfalso; have h : i_lret M S (g, mi, ml, mr) = some (.inl cf') := h; unfold i_lret fin at h; split at h <;> first | (cases h; done) | (split at h <;> cases h)
  | areturn => exfalso; have h : i_aret M S (g, mi, ml, mr) = some (.inl cf') := h; unfold i_aret fin at h; split at h <;> first | (cases h; done) | (split at h <;> cases h)
  | return_ => exfalso; have h : i_ret M S (g, mi, ml, mr) = some (.inl cf') := h; unfold i_ret fin at h; split at h <;> first | (cases h; done) | (split at h <;> cases h)
  | _ => cases (show (none : Option (Cf ⊕ Res)) = some (.inl cf') from h)
end SND7
