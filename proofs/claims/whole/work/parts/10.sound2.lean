/-! .. fields, arrays, new cells -/
section SND2
variable {p : Program} {l : Launch} {e : Env} {R : Room} {s : State} {m : MethodId} {args : Array Value} {below : List Frame} {meth : Method} {c : Code} {Q : State → Prop}
variable {D : va_G} {A : Nat → Prop} {sb Ls : Nat} {xs : Nat → Int32} {w0 : va_W} {M : Mth} {d C0 S0 C1 S1 : Nat} {cf' : Cf} {pc : Nat} {L S : List Value} {g : Gh} {mi : MI} {ml : ML} {mr : MR}
theorem vp_of {x : Int32} {n : Nat} (h0 : 0 ≤ x) (h1 : x.toNatClampNeg < n) : vp_in x n := fun h => h.elim (fun h => absurd h0 (Int32.not_le.mpr h)) (fun h => absurd h1 (Nat.not_lt.mpr h))
theorem s_dup (X : Cx p l R s m args meth c A sb Ls xs M d C0 S0 C1 S1) (hd : decode (mB M) pc = .ok (.dup, 1)) (h : i_dup pc L S (g, mi, ml, mr) = some (.inl cf')) (kk : Sat p l e R s m args below meth c Q D A sb Ls xs w0 (mL M) C0 S0 C1 S1 cf') : Sat p l e R s m args below meth c Q D A sb Ls xs w0 (mL M) C0 S0 C1 S1 (pc, L, S, g, mi, ml, mr) := by
  unfold i_dup at h
  split at h
  · have := nxt_inj h
    subst this
    intro tys ws H locs ls st hH hL hS hV hE hb
    obtain ⟨w1, st1, rfl, h1, hS1⟩ := FR.cons hS
    exact lv_dup X.1 X.2.1 hd (by rw [← h1.cat]; rfl) (kk tys ws H locs ls _ hH hL ⟨h1, h1, hS1⟩ hV hE hb)
  · cases h
theorem s_dup2 (X : Cx p l R s m args meth c A sb Ls xs M d C0 S0 C1 S1) (hd : decode (mB M) pc = .ok (.dup2, 1)) (h : i_dup2 pc L S (g, mi, ml, mr) = some (.inl cf')) (kk : Sat p l e R s m args below meth c Q D A sb Ls xs w0 (mL M) C0 S0 C1 S1 cf') : Sat p l e R s m args below meth c Q D A sb Ls xs w0 (mL M) C0 S0 C1 S1 (pc, L, S, g, mi, ml, mr) := by
  unfold i_dup2 at h
  split at h
  · have := nxt_inj h
    subst this
    intro tys ws H locs ls st hH hL hS hV hE hb
    obtain ⟨w1, st1, rfl, h1, hS1⟩ := FR.cons hS
    obtain ⟨w2, st2, rfl, h2, hS2⟩ := FR.cons hS1
    exact lv_dup2_11 X.1 X.2.1 hd (by rw [← h1.cat]; rfl) (by rw [← h2.cat]; rfl) (kk tys ws H locs ls _ hH hL ⟨h1, h2, h1, h2, hS2⟩ hV hE hb)
  · cases h
theorem s_lcmp (X : Cx p l R s m args meth c A sb Ls xs M d C0 S0 C1 S1) (hd : decode (mB M) pc = .ok (.lcmp, 1)) (h : i_lcmp pc L S (g, mi, ml, mr) = some (.inl cf')) (kk : Sat p l e R s m args below meth c Q D A sb Ls xs w0 (mL M) C0 S0 C1 S1 cf') : Sat p l e R s m args below meth c Q D A sb Ls xs w0 (mL M) C0 S0 C1 S1 (pc, L, S, g, mi, ml, mr) := by
  unfold i_lcmp at h
  split at h
  · have := nxt_inj h
    subst this
    intro tys ws H locs ls st hH hL hS hV hE hb
    obtain ⟨w1, st1, rfl, h1, hS1⟩ := FR.cons hS
    obtain ⟨w2, st2, rfl, h2, hS2⟩ := FR.cons hS1
    cases h1.lng
    cases h2.lng
    exact W.lcmp X.1 X.2.1 hd (kk tys ws H locs ls _ hH hL ⟨rfl, hS2⟩ hV hE hb)
  · cases h
theorem s_i2l (X : Cx p l R s m args meth c A sb Ls xs M d C0 S0 C1 S1) (hd : decode (mB M) pc = .ok (.i2l, 1)) (h : i_i2l pc L S (g, mi, ml, mr) = some (.inl cf')) (kk : Sat p l e R s m args below meth c Q D A sb Ls xs w0 (mL M) C0 S0 C1 S1 cf') : Sat p l e R s m args below meth c Q D A sb Ls xs w0 (mL M) C0 S0 C1 S1 (pc, L, S, g, mi, ml, mr) := by
  unfold i_i2l at h
  split at h
  · have := nxt_inj h
    subst this
    intro tys ws H locs ls st hH hL hS hV hE hb
    obtain ⟨w1, st1, rfl, h1, hS1⟩ := FR.cons hS
    cases h1.int
    exact lv_i2l X.1 X.2.1 hd rfl (kk tys ws H locs ls _ hH hL ⟨rfl, hS1⟩ hV hE hb)
  · cases h
theorem s_l2i (X : Cx p l R s m args meth c A sb Ls xs M d C0 S0 C1 S1) (hd : decode (mB M) pc = .ok (.l2i, 1)) (h : i_l2i pc L S (g, mi, ml, mr) = some (.inl cf')) (kk : Sat p l e R s m args below meth c Q D A sb Ls xs w0 (mL M) C0 S0 C1 S1 cf') : Sat p l e R s m args below meth c Q D A sb Ls xs w0 (mL M) C0 S0 C1 S1 (pc, L, S, g, mi, ml, mr) := by
  unfold i_l2i at h
  split at h
  · have := nxt_inj h
    subst this
    intro tys ws H locs ls st hH hL hS hV hE hb
    obtain ⟨w1, st1, rfl, h1, hS1⟩ := FR.cons hS
    cases h1.lng
    exact lv_l2i X.1 X.2.1 hd rfl (kk tys ws H locs ls _ hH hL ⟨rfl, hS1⟩ hV hE hb)
  · cases h
theorem s_getf {x : Nat} (X : Cx p l R s m args meth c A sb Ls xs M d C0 S0 C1 S1) (hd : decode (mB M) pc = .ok (.getfield x, 3)) (h : i_getf M x pc L S g mi ml mr = some (.inl cf')) (kk : Sat p l e R s m args below meth c Q D A sb Ls xs w0 (mL M) C0 S0 C1 S1 cf') : Sat p l e R s m args below meth c Q D A sb Ls xs w0 (mL M) C0 S0 C1 S1 (pc, L, S, g, mi, ml, mr) := by
  unfold i_getf at h
  split at h
  · rename_i a S'
    split at h
    · rename_i fe hfe
      by_cases ha : g.1 a = fe.1 + 1
      · rw [if_pos ha] at h
        have := nxt_inj h
        subst this
        obtain ⟨h6, hkN, hlk, hdecl, -, hty⟩ := fT_ok _ (lkp_mem hfe)
        dsimp only at h6 hkN hlk hdecl hty
        intro tys ws H locs ls st hH hL hS hV hE hb
        obtain ⟨w1, st1, rfl, h1, hS1⟩ := FR.cons hS
        obtain ⟨h2, q, ev, hw, hadr, hc⟩ := hH.cell ha (Nat.succ_ne_zero _) (by omega)
        obtain ⟨fs, rfl, hlen, hf⟩ := hc.obj ha h6
        obtain ⟨w, hw1, hv⟩ := hf _ hkN
        cases h1.addr hadr
        rw [hty] at hv
        exact va_get (D := D) (ci := fe.1) (v := w) (C := cN fe.1) (T := TX fe.1) (N := fN fe.1) (own := cN (mO M)) (ref := cN fe.1) X.1 X.2.1 X.2.2.2.2.1 (uws_in _ h6) X.2.2.2.1 hH.2.2.1 hH.1 (a - 2) hw (vwCl_at _ h6) fe.2.1 hkN (X.2.2.2.2.1 _ (WS_of hlk)) (fun y hy => by rw [← hdecl]; exact hy) hw1 hd (kk tys ws H locs ls _ hH hL ⟨hv, hS1⟩ hV hE hb)
      · rw [if_neg ha] at h; cases h
    · cases h
  · cases h
/-- a field changes -/
theorem HR.putf {tys : List (ClassId × FieldType)} {ws : va_W} {H H1 : Heap} {mi' : MI} {ml' : ML} {mr' : MR} {a q ci k : Nat} {fs : List Value} {w : Value} (h : HR D A sb Ls xs tys ws g mi ml mr H s) (h2 : 2 ≤ a) (hw : ws[a - 2]? = some (q, .inr (ci, fs))) (ha : g.1 a = ci + 1) (h6 : ci < 6) (hlen : fs.length = fN ci) (hf : ∀ j, j < fN ci → ∃ w, fs[j]? = some w ∧ VR ws sb (fval (tyc (tyX ci j)) mi ml mr a j) w)
    (hP : va_P D vwCl (ws.set (a - 2) (q, .inr (ci, fs.set k w))) H1) (hD : va_D A (ws.set (a - 2) (q, .inr (ci, fs.set k w)))) (hi : ∀ b j, (b ≠ a ∨ j ≠ k) → mi' b j = mi b j) (hl : ∀ b j, (b ≠ a ∨ j ≠ k) → ml' b j = ml b j) (hr : ∀ b j, (b ≠ a ∨ j ≠ k) → mr' b j = mr b j)
    (hv : VR (ws.set (a - 2) (q, .inr (ci, fs.set k w))) sb (fval (tyc (tyX ci k)) mi' ml' mr' a k) w) : HR D A sb Ls xs tys (ws.set (a - 2) (q, .inr (ci, fs.set k w))) g mi' ml' mr' H1 s := by
  refine h.upd h2 hw hP hD (fun b j hb => hi b j (Or.inl hb)) (fun b j hb => hl b j (Or.inl hb)) (fun b j hb => hr b j (Or.inl hb)) (Or.inl ⟨ci, fs.set k w, ha, h6, rfl, by rw [List.length_set]; exact hlen, fun j hj => ?_⟩)
  by_cases hjk : j = k
  · subst hjk
    exact ⟨w, List.getElem?_set_self (by rw [hlen]; exact hj), hv⟩
  · obtain ⟨u, h3, h4⟩ := hf j hj
    refine ⟨u, by rw [List.getElem?_set_ne (fun e => hjk e.symm)]; exact h3, ?_⟩
    have : fval (tyc (tyX ci j)) mi' ml' mr' a j = fval (tyc (tyX ci j)) mi ml mr a j := by unfold fval; rw [hi a j (Or.inr hjk), hl a j (Or.inr hjk), hr a j (Or.inr hjk)]
    rw [this]
    exact h4.ext (Ex.set hw)
theorem u2_s {α : Type} {f : Nat → Nat → α} {a k : Nat} {v : α} : u2 f a k v a k = v := by unfold u2; rw [if_pos ⟨rfl, rfl⟩]
theorem u2_n {α : Type} {f : Nat → Nat → α} {a k b j : Nat} {v : α} (h : b ≠ a ∨ j ≠ k) : u2 f a k v b j = f b j := by unfold u2; rw [if_neg (fun q => h.elim (fun h => h q.1) (fun h => h q.2))]
theorem put_i {ty : FieldType} {y : Int32} (h : tyc ty = 0 ∨ (tyc ty = 1 ∧ (y = 0 ∨ y = 1))) : narrow ty (.int y) = .int y ∧ fits ty (.int y) = true := by
  cases ty with
  | int => exact ⟨rfl, rfl⟩
  | boolean =>
    rcases h with h | ⟨-, rfl | rfl⟩
    · cases h
    · exact ⟨rfl, rfl⟩
    · exact ⟨rfl, rfl⟩
  | _ => rcases h with h | ⟨h, -⟩ <;> cases h
theorem put_l {ty : FieldType} {y : Int64} (h : tyc ty = 2) : narrow ty (.long y) = .long y ∧ fits ty (.long y) = true := by
  cases ty with
  | long => exact ⟨rfl, rfl⟩
  | _ => cases h
theorem put_r {ty : FieldType} {q : Nat} (h : tyc ty = 3) : narrow ty (.ref q) = .ref q ∧ fits ty (.ref q) = true := by
  cases ty with
  | object C => exact ⟨rfl, rfl⟩
  | array t => exact ⟨rfl, rfl⟩
  | _ => cases h
theorem s_putf0 {x : Nat} {fe : Nat × Nat × Nat × Bool} {a : Nat} {v : Value} {S' : List Value} {mi' : MI} {ml' : ML} {mr' : MR} (X : Cx p l R s m args meth c A sb Ls xs M d C0 S0 C1 S1) (hd : decode (mB M) pc = .ok (.putfield x, 3)) (hfe : lkp (mO M) x fT = some fe) (hok : okF M fe.1 fe.2.2.2 = true) (ha : g.1 a = fe.1 + 1)
    (hi : ∀ b j, (b ≠ a ∨ j ≠ fe.2.1) → mi' b j = mi b j) (hl : ∀ b j, (b ≠ a ∨ j ≠ fe.2.1) → ml' b j = ml b j) (hr : ∀ b j, (b ≠ a ∨ j ≠ fe.2.1) → mr' b j = mr b j) (hfv : fval fe.2.2.1 mi' ml' mr' a fe.2.1 = v) (hput : ∀ ty ws w, tyc ty = fe.2.2.1 → VR ws sb v w → narrow ty w = w ∧ fits ty w = true)
    (kk : Sat p l e R s m args below meth c Q D A sb Ls xs w0 (mL M) C0 S0 C1 S1 (pc + 3, L, S', g, mi', ml', mr')) : Sat p l e R s m args below meth c Q D A sb Ls xs w0 (mL M) C0 S0 C1 S1 (pc, L, v :: .ref a :: S', g, mi, ml, mr) := by
  obtain ⟨h6, hkN, hlk, hdecl, hfin, hty⟩ := fT_ok _ (lkp_mem hfe)
  dsimp only at h6 hkN hlk hdecl hfin hty
  intro tys ws H locs ls st hH hL hS hV hE hb
  obtain ⟨w1, st1, rfl, h1, hS1⟩ := FR.cons hS
  obtain ⟨w2, st2, rfl, h2', hS2⟩ := FR.cons hS1
  obtain ⟨h2, q, ev, hw, hadr, hc⟩ := hH.cell ha (Nat.succ_ne_zero _) (by omega)
  obtain ⟨fs, rfl, hlen, hf⟩ := hc.obj ha h6
  cases h2'.addr hadr
  have hpt := hput _ ws w1 hty h1
  have K : ∀ (H1 : Heap) (locs1 : List Loc), va_P D vwCl (ws.set (a - 2) (q, .inr (fe.1, fs.set fe.2.1 w1))) H1 → va_D A (ws.set (a - 2) (q, .inr (fe.1, fs.set fe.2.1 w1))) → va_S A s.heap H1 locs1 → W p l e R s m args below meth c H1 locs1 (C0 - g.2.2.2.1) (S0 - g.2.2.2.2) Q (F0 m (pc + 3) ls st2) := fun H1 locs1 hP hD hV1 =>
    kk tys _ H1 locs1 ls st2 (hH.putf h2 hw ha h6 hlen hf hP hD hi hl hr (by rw [hty, hfv]; exact h1.ext (Ex.set hw))) (hL.ext (Ex.set hw)) (hS2.ext (Ex.set hw)) hV1 (hE.tr (Ex.set hw)) hb
  cases hb2 : fe.2.2.2 with
  | false =>
    exact va_put (D := D) (ci := fe.1) (v := w1) (ty := tyX fe.1 fe.2.1) (C := cN fe.1) (T := TX fe.1) (N := fN fe.1) (own := cN (mO M)) (ref := cN fe.1) X.1 X.2.1 X.2.2.2.2.1 (uws_in _ h6) (tyX fe.1) (tyX_ok _ h6) (nmX_ok _ h6) X.2.2.2.1 hH.2.2.1 hH.1 hH.2.1 hV (a - 2) hw (vwCl_at _ h6) fe.2.1 hkN (X.2.2.2.2.1 _ (WS_of hlk)) (fun y hy => by rw [← hdecl]; exact hy) (by rw [hfin]; exact hb2) (tyX_ok _ h6 _ hkN) hpt.1 hpt.2 (by rw [hlen]; exact hkN) hd K
  | true =>
    unfold okF at hok
    rw [hb2] at hok
    simp only [Bool.not_true, Bool.false_or, Bool.and_eq_true, beq_iff_eq] at hok
    have e1 : mO M = fe.1 := Nat.eq_of_beq_eq_true hok.1
    exact va_putF (D := D) (ci := fe.1) (v := w1) (ty := tyX fe.1 fe.2.1) (C := cN fe.1) (T := TX fe.1) (N := fN fe.1) (own := cN (mO M)) (ref := cN fe.1) X.1 X.2.1 X.2.2.2.2.1 (uws_in _ h6) (tyX fe.1) (tyX_ok _ h6) (nmX_ok _ h6) X.2.2.2.1 hH.2.2.1 hH.1 hH.2.1 hV (a - 2) hw (vwCl_at _ h6) fe.2.1 hkN (X.2.2.2.2.1 _ (WS_of hlk)) (fun y hy => by rw [← hdecl]; exact hy) (by rw [hfin]; exact hb2) (X.2.2.2.2.2.2.1 hok.2) (by rw [e1]; exact hdecl) (tyX_ok _ h6 _ hkN) hpt.1 hpt.2 (by rw [hlen]; exact hkN) hd K
theorem s_putf {x : Nat} (X : Cx p l R s m args meth c A sb Ls xs M d C0 S0 C1 S1) (hd : decode (mB M) pc = .ok (.putfield x, 3)) (h : i_putf M x pc L S g mi ml mr = some (.inl cf')) (kk : Sat p l e R s m args below meth c Q D A sb Ls xs w0 (mL M) C0 S0 C1 S1 cf') : Sat p l e R s m args below meth c Q D A sb Ls xs w0 (mL M) C0 S0 C1 S1 (pc, L, S, g, mi, ml, mr) := by
  unfold i_putf at h
  split at h
  · rename_i v a S'
    split at h
    · rename_i fe hfe
      cases hok : okF M fe.1 fe.2.2.2 with
      | false => rw [hok] at h; cases h
      | true =>
        rw [hok] at h
        simp only [cond_true] at h
        by_cases ha : g.1 a = fe.1 + 1
        · rw [if_pos ha] at h
          split at h
          · rename_i y
            split at h
            · rename_i ht
              have := nxt_inj h
              subst this
              refine s_putf0 (mi' := u2 mi a fe.2.1 y) (ml' := ml) (mr' := mr) X hd hfe hok ha (fun b j hb => u2_n hb) (fun _ _ _ => rfl) (fun _ _ _ => rfl) ?_ (fun ty ws w hty hv => ?_) kk
              · unfold fval
                rcases ht with ht | ⟨ht, -⟩ <;> rw [ht, u2_s] <;> rfl
              · cases hv.int
                exact put_i (by rw [hty]; exact ht)
            · cases h
          · rename_i y
            split at h
            · rename_i ht
              have := nxt_inj h
              subst this
              refine s_putf0 (mi' := mi) (ml' := u2 ml a fe.2.1 y) (mr' := mr) X hd hfe hok ha (fun _ _ _ => rfl) (fun b j hb => u2_n hb) (fun _ _ _ => rfl) ?_ (fun ty ws w hty hv => ?_) kk
              · unfold fval
                rw [ht, u2_s]; rfl
              · cases hv.lng
                exact put_l (by rw [hty]; exact ht)
            · cases h
          · rename_i y
            split at h
            · rename_i ht
              have := nxt_inj h
              subst this
              refine s_putf0 (mi' := mi) (ml' := ml) (mr' := u2 mr a fe.2.1 y) X hd hfe hok ha (fun _ _ _ => rfl) (fun _ _ _ => rfl) (fun b j hb => u2_n hb) ?_ (fun ty ws w hty hv => ?_) kk
              · unfold fval
                rw [ht.1, u2_s]; rfl
              · rcases hv with ⟨h0, -⟩ | ⟨q, -, rfl⟩
                · exact absurd h0 ht.2
                · exact put_r (by rw [hty]; exact ht.1)
            · cases h
          · cases h
        · rw [if_neg ha] at h; cases h
    · cases h
  · cases h
end SND2
