/-! .. arrays and new cells -/
section SND3
variable {p : Program} {l : Launch} {e : Env} {R : Room} {s : State} {m : MethodId} {args : Array Value} {below : List Frame} {meth : Method} {c : Code} {Q : State → Prop}
variable {D : va_G} {A : Nat → Prop} {sb Ls : Nat} {xs : Nat → Int32} {w0 : va_W} {M : Mth} {d C0 S0 C1 S1 : Nat} {cf' : Cf} {pc : Nat} {L S : List Value} {g : Gh} {mi : MI} {ml : ML} {mr : MR}
theorem s_iald {kd : Nat} (X : Cx p l R s m args meth c A sb Ls xs M d C0 S0 C1 S1) (hd : (kd = 20 ∧ decode (mB M) pc = .ok (.iaload, 1)) ∨ (kd = 22 ∧ decode (mB M) pc = .ok (.baload, 1))) (h : i_iald M kd pc L S g mi ml mr = some (.inl cf')) (kk : Sat p l e R s m args below meth c Q D A sb Ls xs w0 (mL M) C0 S0 C1 S1 cf') : Sat p l e R s m args below meth c Q D A sb Ls xs w0 (mL M) C0 S0 C1 S1 (pc, L, S, g, mi, ml, mr) := by
  unfold i_iald at h
  split at h
  · rename_i x a S'
    split at h
    · rename_i hc0
      obtain ⟨hk0, hx0, hx1⟩ := hc0
      have := nxt_inj h
      subst this
      intro tys ws H locs ls st hH hL hS hV hE hb
      obtain ⟨w1, st1, rfl, h1, hS1⟩ := FR.cons hS
      obtain ⟨w2, st2, rfl, h2, hS2⟩ := FR.cons hS1
      cases h1.int
      rcases hk0 with hk0 | ⟨rfl, hk0, hlaw⟩
      · have hkd : kd = 20 ∨ kd = 22 := hd.elim (fun h => Or.inl h.1) (fun h => Or.inr h.1)
        obtain ⟨h2a, q, ev, hw, hadr, hc⟩ := hH.cell hk0 (by omega) (by omega)
        obtain ⟨cA, f, rfl, ht, hf⟩ := hc.arI hk0 hkd
        cases h2.addr hadr
        obtain ⟨t0, ht0⟩ := List.getElem?_of_mem ht
        have K := kk tys ws H locs ls (.int (f x.toNatClampNeg) :: st2) hH hL ⟨by rw [hf _ hx1]; rfl, hS2⟩ hV hE hb
        rcases hd with ⟨rfl, hd⟩ | ⟨rfl, hd⟩
        · exact va_iald X.1 X.2.1 hH.2.2.1 hH.1 (a - 2) t0 hw ht0 (vp_of hx0 hx1) hd K
        · exact va_zald X.1 X.2.1 hH.2.2.1 hH.1 (a - 2) t0 hw ht0 (vp_of hx0 hx1) hd K
      · obtain ⟨hX, hbl, hbA⟩ := X.2.2.2.2.2.2.2.2.2.2.2.2.2.2.2.2 hlaw
        rcases hH.2.2.2.2 a (by show g.1 a ≠ 0; omega) with ⟨p1, p2, p3, p4⟩ | ⟨p1, p2, -⟩
        · dsimp only at p2 p3 p4
          have hadr : adr ws sb a = some sb := by unfold adr; rw [if_pos p1]
          cases h2.addr hadr
          have K := kk tys ws H locs ls (.int (xs x.toNatClampNeg) :: st2) hH hL ⟨by rw [p4]; rfl, hS2⟩ hV hE hb
          rcases hd with ⟨-, hd⟩ | ⟨h9, -⟩
          · exact va_sld X.1 X.2.1 hX hbl hbA hV (vp_of hx0 (by rw [← p3]; exact hx1)) hd K
          · cases h9
        · dsimp only at p2
          omega
    · cases h
  · cases h
theorem s_lald (X : Cx p l R s m args meth c A sb Ls xs M d C0 S0 C1 S1) (hd : decode (mB M) pc = .ok (.laload, 1)) (h : i_lald pc L S g mi ml mr = some (.inl cf')) (kk : Sat p l e R s m args below meth c Q D A sb Ls xs w0 (mL M) C0 S0 C1 S1 cf') : Sat p l e R s m args below meth c Q D A sb Ls xs w0 (mL M) C0 S0 C1 S1 (pc, L, S, g, mi, ml, mr) := by
  unfold i_lald at h
  split at h
  · rename_i x a S'
    split at h
    · rename_i hc0
      obtain ⟨hk0, hx0, hx1⟩ := hc0
      have := nxt_inj h
      subst this
      intro tys ws H locs ls st hH hL hS hV hE hb
      obtain ⟨w1, st1, rfl, h1, hS1⟩ := FR.cons hS
      obtain ⟨w2, st2, rfl, h2, hS2⟩ := FR.cons hS1
      cases h1.int
      obtain ⟨h2a, q, ev, hw, hadr, hc⟩ := hH.cell hk0 (by omega) (by omega)
      obtain ⟨cA, f, rfl, ht, hf⟩ := hc.arL hk0
      cases h2.addr hadr
      obtain ⟨t0, ht0⟩ := List.getElem?_of_mem ht
      exact va_lald X.1 X.2.1 hH.2.2.1 hH.1 (a - 2) t0 hw ht0 (vp_of hx0 hx1) hd (kk tys ws H locs ls (.long (f x.toNatClampNeg) :: st2) hH hL ⟨by rw [hf _ hx1]; rfl, hS2⟩ hV hE hb)
    · cases h
  · cases h
theorem OR.VR {ws : va_W} {r : Nat} {o : Option Nat} (h : OR ws sb r o) : VR ws sb (.ref r) (va_rf o) := by
  rcases h with ⟨rfl, rfl⟩ | ⟨q, h1, rfl⟩
  · exact Or.inl ⟨rfl, rfl⟩
  · exact Or.inr ⟨q, h1, rfl⟩
theorem s_aald (X : Cx p l R s m args meth c A sb Ls xs M d C0 S0 C1 S1) (hd : decode (mB M) pc = .ok (.aaload, 1)) (h : i_aald pc L S g mi ml mr = some (.inl cf')) (kk : Sat p l e R s m args below meth c Q D A sb Ls xs w0 (mL M) C0 S0 C1 S1 cf') : Sat p l e R s m args below meth c Q D A sb Ls xs w0 (mL M) C0 S0 C1 S1 (pc, L, S, g, mi, ml, mr) := by
  unfold i_aald at h
  split at h
  · rename_i x a S'
    split at h
    · rename_i hc0
      obtain ⟨hk0, hx0, hx1⟩ := hc0
      have := nxt_inj h
      subst this
      intro tys ws H locs ls st hH hL hS hV hE hb
      obtain ⟨w1, st1, rfl, h1, hS1⟩ := FR.cons hS
      obtain ⟨w2, st2, rfl, h2, hS2⟩ := FR.cons hS1
      cases h1.int
      obtain ⟨h2a, q, ev, hw, hadr, hc⟩ := hH.cell (rfl : g.1 a = g.1 a) (by omega) (by omega)
      obtain ⟨cA, f, rfl, ht, hf⟩ := hc.arR hk0
      cases h2.addr hadr
      obtain ⟨t0, ht0⟩ := List.getElem?_of_mem ht
      exact va_aldq X.1 X.2.1 hH.2.2.1 hH.1 (a - 2) t0 hw ht0 (vp_of hx0 hx1) hd (kk tys ws H locs ls (va_rf (f x.toNatClampNeg) :: st2) hH hL ⟨(hf _ hx1).VR, hS2⟩ hV hE hb)
    · cases h
  · cases h
theorem s_iast (X : Cx p l R s m args meth c A sb Ls xs M d C0 S0 C1 S1) (hd : decode (mB M) pc = .ok (.iastore, 1)) (h : i_iast pc L S g mi ml mr = some (.inl cf')) (kk : Sat p l e R s m args below meth c Q D A sb Ls xs w0 (mL M) C0 S0 C1 S1 cf') : Sat p l e R s m args below meth c Q D A sb Ls xs w0 (mL M) C0 S0 C1 S1 (pc, L, S, g, mi, ml, mr) := by
  unfold i_iast at h
  split at h
  · rename_i v x a S'
    split at h
    · rename_i hc0
      obtain ⟨hk0, hx0, hx1⟩ := hc0
      have := nxt_inj h
      subst this
      intro tys ws H locs ls st hH hL hS hV hE hb
      obtain ⟨w1, st1, rfl, h1, hS1⟩ := FR.cons hS
      obtain ⟨w2, st2, rfl, h2, hS2⟩ := FR.cons hS1
      obtain ⟨w3, st3, rfl, h3, hS3⟩ := FR.cons hS2
      cases h1.int
      cases h2.int
      obtain ⟨h2a, q, ev, hw, hadr, hc⟩ := hH.cell hk0 (by omega) (by omega)
      obtain ⟨cA, f, rfl, ht, hf⟩ := hc.arI hk0 (Or.inl rfl)
      cases h3.addr hadr
      obtain ⟨t0, ht0⟩ := List.getElem?_of_mem ht
      refine va_iast X.1 X.2.1 hH.2.2.1 hH.1 hH.2.1 hV (a - 2) t0 hw ht0 (vp_of hx0 hx1) hd (fun H1 locs1 hP hD hV1 => kk tys _ H1 locs1 ls st3 (hH.upd (mi' := u2 mi a x.toNatClampNeg v) (ml' := ml) (mr' := mr) h2a hw hP hD (fun b j hb => u2_n (Or.inl hb)) (fun _ _ _ => rfl) (fun _ _ _ => rfl) ?_) (hL.ext (Ex.set hw)) (hS3.ext (Ex.set hw)) hV1 (hE.tr (Ex.set hw)) hb)
      refine Or.inr (Or.inl ⟨cA, _, .int, Or.inl ⟨hk0, rfl⟩, rfl, ht, fun j hj => ?_⟩)
      by_cases hjx : j = x.toNatClampNeg
      · subst hjx
        rw [u2_s]
        exact pk_us
      · rw [u2_n (Or.inr hjx), pk_un hjx]
        exact hf j hj
    · cases h
  · cases h
theorem s_bast (X : Cx p l R s m args meth c A sb Ls xs M d C0 S0 C1 S1) (hd : decode (mB M) pc = .ok (.bastore, 1)) (h : i_bast pc L S g mi ml mr = some (.inl cf')) (kk : Sat p l e R s m args below meth c Q D A sb Ls xs w0 (mL M) C0 S0 C1 S1 cf') : Sat p l e R s m args below meth c Q D A sb Ls xs w0 (mL M) C0 S0 C1 S1 (pc, L, S, g, mi, ml, mr) := by
  unfold i_bast at h
  split at h
  · rename_i v x a S'
    split at h
    · rename_i hc0
      obtain ⟨hk0, hx0, hx1, hv01⟩ := hc0
      have := nxt_inj h
      subst this
      intro tys ws H locs ls st hH hL hS hV hE hb
      obtain ⟨w1, st1, rfl, h1, hS1⟩ := FR.cons hS
      obtain ⟨w2, st2, rfl, h2, hS2⟩ := FR.cons hS1
      obtain ⟨w3, st3, rfl, h3, hS3⟩ := FR.cons hS2
      cases h1.int
      cases h2.int
      obtain ⟨h2a, q, ev, hw, hadr, hc⟩ := hH.cell hk0 (by omega) (by omega)
      obtain ⟨cA, f, rfl, ht, hf⟩ := hc.arI hk0 (Or.inr rfl)
      cases h3.addr hadr
      have ht : (cA, FieldType.boolean) ∈ tys := ht
      obtain ⟨t0, ht0⟩ := List.getElem?_of_mem ht
      have hn : vp_nar .boolean v = v := by rcases hv01 with rfl | rfl <;> rfl
      refine va_zast X.1 X.2.1 hH.2.2.1 hH.1 hH.2.1 hV (a - 2) t0 hw ht0 (vp_of hx0 hx1) hd (fun H1 locs1 hP hD hV1 => kk tys _ H1 locs1 ls st3 (hH.upd (mi' := u2 mi a x.toNatClampNeg v) (ml' := ml) (mr' := mr) h2a hw hP hD (fun b j hb => u2_n (Or.inl hb)) (fun _ _ _ => rfl) (fun _ _ _ => rfl) ?_) (hL.ext (Ex.set hw)) (hS3.ext (Ex.set hw)) hV1 (hE.tr (Ex.set hw)) hb)
      refine Or.inr (Or.inl ⟨cA, _, .boolean, Or.inr ⟨hk0, rfl⟩, rfl, ht, fun j hj => ?_⟩)
      rw [hn]
      by_cases hjx : j = x.toNatClampNeg
      · subst hjx
        rw [u2_s]
        exact pk_us
      · rw [u2_n (Or.inr hjx), pk_un hjx]
        exact hf j hj
    · cases h
  · cases h
theorem s_last (X : Cx p l R s m args meth c A sb Ls xs M d C0 S0 C1 S1) (hd : decode (mB M) pc = .ok (.lastore, 1)) (h : i_last pc L S g mi ml mr = some (.inl cf')) (kk : Sat p l e R s m args below meth c Q D A sb Ls xs w0 (mL M) C0 S0 C1 S1 cf') : Sat p l e R s m args below meth c Q D A sb Ls xs w0 (mL M) C0 S0 C1 S1 (pc, L, S, g, mi, ml, mr) := by
  unfold i_last at h
  split at h
  · rename_i v x a S'
    split at h
    · rename_i hc0
      obtain ⟨hk0, hx0, hx1⟩ := hc0
      have := nxt_inj h
      subst this
      intro tys ws H locs ls st hH hL hS hV hE hb
      obtain ⟨w1, st1, rfl, h1, hS1⟩ := FR.cons hS
      obtain ⟨w2, st2, rfl, h2, hS2⟩ := FR.cons hS1
      obtain ⟨w3, st3, rfl, h3, hS3⟩ := FR.cons hS2
      cases h1.lng
      cases h2.int
      obtain ⟨h2a, q, ev, hw, hadr, hc⟩ := hH.cell hk0 (by omega) (by omega)
      obtain ⟨cA, f, rfl, ht, hf⟩ := hc.arL hk0
      cases h3.addr hadr
      obtain ⟨t0, ht0⟩ := List.getElem?_of_mem ht
      refine va_last X.1 X.2.1 hH.2.2.1 hH.1 hH.2.1 hV (a - 2) t0 hw ht0 (vp_of hx0 hx1) hd (fun H1 locs1 hP hD hV1 => kk tys _ H1 locs1 ls st3 (hH.upd (mi' := mi) (ml' := u2 ml a x.toNatClampNeg v) (mr' := mr) h2a hw hP hD (fun _ _ _ => rfl) (fun b j hb => u2_n (Or.inl hb)) (fun _ _ _ => rfl) ?_) (hL.ext (Ex.set hw)) (hS3.ext (Ex.set hw)) hV1 (hE.tr (Ex.set hw)) hb)
      refine Or.inr (Or.inr (Or.inl ⟨cA, _, hk0, rfl, ht, fun j hj => ?_⟩))
      by_cases hjx : j = x.toNatClampNeg
      · subst hjx
        rw [u2_s]
        exact pk_uLs
      · rw [u2_n (Or.inr hjx), pk_uLn hjx]
        exact hf j hj
    · cases h
  · cases h
theorem elK_ok {k : Nat} (h : k = 23 ∨ k = 24 ∨ k = 25) : elK k = elC k + 1 ∧ elC k < 6 := by
  rcases h with rfl | rfl | rfl <;> exact ⟨rfl, by decide⟩
theorem s_aast (X : Cx p l R s m args meth c A sb Ls xs M d C0 S0 C1 S1) (hd : decode (mB M) pc = .ok (.aastore, 1)) (h : i_aast pc L S g mi ml mr = some (.inl cf')) (kk : Sat p l e R s m args below meth c Q D A sb Ls xs w0 (mL M) C0 S0 C1 S1 cf') : Sat p l e R s m args below meth c Q D A sb Ls xs w0 (mL M) C0 S0 C1 S1 (pc, L, S, g, mi, ml, mr) := by
  unfold i_aast at h
  split at h
  · rename_i v x a S'
    split at h
    · rename_i hc0
      obtain ⟨hk0, hx0, hx1, hv⟩ := hc0
      have := nxt_inj h
      subst this
      intro tys ws H locs ls st hH hL hS hV hE hb
      obtain ⟨w1, st1, rfl, h1, hS1⟩ := FR.cons hS
      obtain ⟨w2, st2, rfl, h2, hS2⟩ := FR.cons hS1
      obtain ⟨w3, st3, rfl, h3, hS3⟩ := FR.cons hS2
      cases h2.int
      obtain ⟨e1, e2⟩ := elK_ok hk0
      rw [e1] at hv
      obtain ⟨h2v, qv, evv, hwv, hadrv, hcv⟩ := hH.cell hv (Nat.succ_ne_zero _) (by omega)
      obtain ⟨fsv, rfl, -, -⟩ := hcv.obj hv e2
      cases h1.addr hadrv
      obtain ⟨h2a, q, ev, hw, hadr, hc⟩ := hH.cell (rfl : g.1 a = g.1 a) (by omega) (by omega)
      obtain ⟨cA, f, rfl, ht, hf⟩ := hc.arR hk0
      cases h3.addr hadr
      obtain ⟨t0, ht0⟩ := List.getElem?_of_mem ht
      refine va_astq (r := (cN (elC (g.1 a)), TX (elC (g.1 a)), fN (elC (g.1 a)))) X.1 X.2.1 hH.2.2.1 hH.1 hH.2.1 hV (a - 2) t0 (v - 2) (elC (g.1 a)) hw ht0 hwv (vwCl_at _ e2) (vp_of hx0 hx1) hd (fun H1 locs1 hP hD hV1 => kk tys _ H1 locs1 ls st3 (hH.upd (mi' := mi) (ml' := ml) (mr' := u2 mr a x.toNatClampNeg v) h2a hw hP hD (fun _ _ _ => rfl) (fun _ _ _ => rfl) (fun b j hb => u2_n (Or.inl hb)) ?_) (hL.ext (Ex.set hw)) (hS3.ext (Ex.set hw)) hV1 (hE.tr (Ex.set hw)) hb)
      refine Or.inr (Or.inr (Or.inr ⟨cA, _, hk0, rfl, ht, fun j hj => ?_⟩))
      by_cases hjx : j = x.toNatClampNeg
      · subst hjx
        rw [u2_s]
        exact Or.inr ⟨qv, adr.ext (Ex.set hw) hadrv, by unfold va_up; rw [if_pos rfl]⟩
      · rw [u2_n (Or.inr hjx)]
        have : va_up f x.toNatClampNeg (some qv) j = f j := by unfold va_up; rw [if_neg hjx]
        rw [this]
        exact (hf j hj).ext (Ex.set hw)
    · cases h
  · cases h
theorem s_len (X : Cx p l R s m args meth c A sb Ls xs M d C0 S0 C1 S1) (hd : decode (mB M) pc = .ok (.arraylength, 1)) (h : i_len M pc L S g (g, mi, ml, mr) = some (.inl cf')) (kk : Sat p l e R s m args below meth c Q D A sb Ls xs w0 (mL M) C0 S0 C1 S1 cf') : Sat p l e R s m args below meth c Q D A sb Ls xs w0 (mL M) C0 S0 C1 S1 (pc, L, S, g, mi, ml, mr) := by
  unfold i_len at h
  split at h
  · rename_i a S'
    split at h
    · rename_i hc0
      have := nxt_inj h
      subst this
      intro tys ws H locs ls st hH hL hS hV hE hb
      obtain ⟨w1, st1, rfl, h1, hS1⟩ := FR.cons hS
      have K := kk tys ws H locs ls (.int (Int32.ofNat (g.2.1 a)) :: st1) hH hL ⟨rfl, hS1⟩ hV hE hb
      rcases hc0 with ⟨hk0, hk1⟩ | ⟨hk0, hlaw⟩
      · obtain ⟨h2a, q, ev, hw, hadr, hc⟩ := hH.cell (rfl : g.1 a = g.1 a) (by omega) (by omega)
        cases h1.addr hadr
        rcases hc with ⟨ci, fs, p1, p2, -⟩ | ⟨cA, f, ty, p1, rfl, ht, -⟩ | ⟨cA, f, p1, rfl, ht, -⟩ | ⟨cA, f, p1, rfl, ht, -⟩
        · dsimp only at p1
          omega
        · obtain ⟨t0, ht0⟩ := List.getElem?_of_mem ht
          exact va_alen X.1 X.2.1 hH.2.2.1 hH.1 (a - 2) t0 hw ht0 rfl hd K
        · obtain ⟨t0, ht0⟩ := List.getElem?_of_mem ht
          exact va_alen X.1 X.2.1 hH.2.2.1 hH.1 (a - 2) t0 hw ht0 rfl hd K
        · obtain ⟨t0, ht0⟩ := List.getElem?_of_mem ht
          exact va_alen X.1 X.2.1 hH.2.2.1 hH.1 (a - 2) t0 hw ht0 rfl hd K
      · obtain ⟨hX, hbl, hbA⟩ := X.2.2.2.2.2.2.2.2.2.2.2.2.2.2.2.2 hlaw
        rcases hH.2.2.2.2 a (by show g.1 a ≠ 0; omega) with ⟨p1, p2, p3, p4⟩ | ⟨p1, p2, -⟩
        · dsimp only at p2 p3 p4
          have hadr : adr ws sb a = some sb := by unfold adr; rw [if_pos p1]
          cases h1.addr hadr
          rw [p3] at K
          exact va_slen X.1 X.2.1 hX hbl hbA hV hd K
        · dsimp only at p2
          omega
    · cases h
  · cases h
end SND3
