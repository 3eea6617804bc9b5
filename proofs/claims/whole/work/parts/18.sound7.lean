/-! a method's ends; the small machine is sound -/
section SND8
variable {p : Program} {l : Launch} {e : Env} {R : Room} {s : State} {m : MethodId} {args : Array Value} {below : List Frame} {meth : Method} {c : Code} {Q : State → Prop}
variable {D : va_G} {A : Nat → Prop} {sb Ls : Nat} {xs : Nat → Int32} {w0 : va_W} {M M' : Mth} {d C0 S0 C1 S1 : Nat} {cl : CallF} {cf' : Cf} {pc : Nat} {L S : List Value} {g : Gh} {mi : MI} {ml : ML} {mr : MR}
theorem f_cQ {r0 : Res} {tys : List (ClassId × FieldType)} {ws : va_W} {H : Heap} {locs : List Loc} {v : Option Value} (hg : r0.2 = (g, mi, ml, mr)) (hov : OV ws sb r0.1 v) (hH : HR D A sb Ls xs tys ws g mi ml mr H s) (hE : Ex w0 ws) (hV : va_S A s.heap H locs) : ∀ t : State, t.heap = H → s.WarmedH t.vm → cQ D A sb Ls xs w0 r0 args s (.returned v) t := fun t ht hW =>
  ⟨⟨v, tys, ws, rfl, hov, hE, by rw [hg]; exact hH.mv ht hW.alike⟩, hV.F ht⟩
theorem f_step (hnl : isL M = false) {i : Instr} {n : Nat} {r0 : Res} (X : Cx p l R s m args meth c A sb Ls xs M d C0 S0 r0.2.1.2.2.2.1 r0.2.1.2.2.2.2) (hcl : ∀ d', d = d' + 1 → CO d' cl) (h0 : d = 0 → ∀ M as h, cl M as h = none) (hcm : CM cl) (hd : decode (mB M) pc = .ok (i, n)) (hn : n = ilen i n) (h : stI cl d M i pc L S g mi ml mr = some (.inr r0)) : Sat p l e R s m args below meth c (vx_MQ below (cQ D A sb Ls xs w0 r0) (cX D A sb Ls xs w0 r0) args s (C0 - r0.2.1.2.2.2.1) (S0 - r0.2.1.2.2.2.2) A) D A sb Ls xs w0 (mL M) C0 S0 r0.2.1.2.2.2.1 r0.2.1.2.2.2.2 (pc, L, S, g, mi, ml, mr) := by
  have hlocks := X.2.2.2.2.2.1
  have hret := X.2.2.2.2.2.2.2.1
  cases i with
  | ireturn =>
    have hn1 : n = 1 := hn
    subst hn1
    replace h : i_iret M S (g, mi, ml, mr) = some (.inr r0) := h
    unfold i_iret at h
    split at h
    · rename_i v
      split at h
      · rename_i hc
        unfold fin at h
        cases h
        intro tys ws H locs ls st hH hL hS hV hE hb
        obtain ⟨w1, st1, rfl, h1, hS1⟩ := FR.cons hS
        cases h1.int
        cases hS1.nil
        refine vx_ret ?_
        rcases hc with hc | ⟨hc, hv⟩
        · exact W.iret X.1 X.2.1 (by rw [hret, hc]) (f_cQ (r0 := (.inl (some (.int v)), g, mi, ml, mr)) rfl ⟨.int v, rfl, rfl⟩ hH hE hV) hV.2.2 hd hlocks
        · exact W.zret (ty := .boolean) X.1 X.2.1 (by rw [hret, hc]) (by rcases hv with rfl | rfl <;> rfl) (f_cQ (r0 := (.inl (some (.int v)), g, mi, ml, mr)) rfl ⟨.int v, rfl, rfl⟩ hH hE hV) hV.2.2 hd hlocks
      · cases h
    · cases h
  | lreturn =>
    have hn1 : n = 1 := hn
    subst hn1
    replace h : i_lret M S (g, mi, ml, mr) = some (.inr r0) := h
    unfold i_lret at h
    split at h
    · rename_i v
      split at h
      · rename_i hc
        unfold fin at h
        cases h
        intro tys ws H locs ls st hH hL hS hV hE hb
        obtain ⟨w1, st1, rfl, h1, hS1⟩ := FR.cons hS
        cases h1.lng
        cases hS1.nil
        refine vx_ret ?_
        exact W.lret X.1 X.2.1 (by rw [hret, hc]) (f_cQ (r0 := (.inl (some (.long v)), g, mi, ml, mr)) rfl ⟨.long v, rfl, rfl⟩ hH hE hV) hV.2.2 hd hlocks
      · cases h
    · cases h
  | areturn =>
    have hn1 : n = 1 := hn
    subst hn1
    replace h : i_aret M S (g, mi, ml, mr) = some (.inr r0) := h
    unfold i_aret at h
    split at h
    · rename_i v
      split at h
      · rename_i hc
        unfold fin at h
        cases h
        intro tys ws H locs ls st hH hL hS hV hE hb
        obtain ⟨w1, st1, rfl, h1, hS1⟩ := FR.cons hS
        cases hS1.nil
        refine vx_ret ?_
        have hw : w1 = .null ∨ ∃ a, w1 = .ref a := by
          rcases h1 with ⟨-, h1⟩ | ⟨q, -, h1⟩
          · exact Or.inl h1
          · exact Or.inr ⟨q, h1⟩
        rcases hc.2 with hc2 | hc2
        · exact W.aret (v := w1) (rt := .object "TrunkGroup$End") X.1 X.2.1 (by rw [hret, hc2]) (Or.inl ⟨_, rfl⟩) hw (f_cQ (r0 := (.inl (some (.ref v)), g, mi, ml, mr)) rfl ⟨w1, rfl, h1⟩ hH hE hV) hV.2.2 hd hlocks
        · exact W.aret (v := w1) (rt := .array .int) X.1 X.2.1 (by rw [hret, hc2]) (Or.inr ⟨_, rfl⟩) hw (f_cQ (r0 := (.inl (some (.ref v)), g, mi, ml, mr)) rfl ⟨w1, rfl, h1⟩ hH hE hV) hV.2.2 hd hlocks
      · cases h
    · cases h
  | return_ =>
    have hn1 : n = 1 := hn
    subst hn1
    replace h : i_ret M S (g, mi, ml, mr) = some (.inr r0) := h
    unfold i_ret at h
    split at h
    · split at h
      · rename_i hc
        unfold fin at h
        cases h
        intro tys ws H locs ls st hH hL hS hV hE hb
        cases hS.nil
        refine vx_ret ?_
        exact W.vret X.1 X.2.1 (by rw [hret, hc]) (f_cQ (r0 := (.inl none, g, mi, ml, mr)) rfl rfl hH hE hV) hV.2.2 hd hlocks
      · cases h
    · cases h
  | new y =>
    have hn1 : n = 3 := hn
    subst hn1
    replace h : i_new d M y pc L S g mi ml mr = some (.inr r0) := h
    unfold i_new at h
    split at h
    · split at h
      · unfold nxt at h; cases h
      · cases h
    · split at h
      · cases h
      · rename_i fe hfe
        split at h
        · rename_i is hd4
          split at h
          · rename_i hc
            obtain ⟨c1, c2, c3, c4, c5, c6, c7, c8, c9⟩ := hc
            unfold fin at h
            cases h
            obtain ⟨text, htx⟩ := Option.isSome_iff_exists.mp c6
            obtain ⟨x1, x2, x3, x4, x5, x6⟩ := xT_ok _ (lkp_mem hfe)
            dsimp only at x1 x2 x3 x4 x5 x6
            have hWd := X.2.2.2.2.2.2.2.2.2.1
            obtain ⟨sa, hsa⟩ := hWd.2.2.1 _ (lkp_mem htx)
            intro tys ws H locs ls st hH hL hS hV hE hb
            have hcat := FR.cats hS
            have hfr := X.2.2.2.2.2.2.2.2.2.2.2.1
            have hlo := X.2.2.2.2.2.2.2.2.2.2.2.2.1
            have hRc := X.2.2.2.2.2.2.2.2.2.2.2.2.2.1
            have hRs := X.2.2.2.2.2.2.2.2.2.2.2.2.2.2.1
            obtain ⟨⟨b1, b2⟩, b3, b4⟩ := hb
            dsimp only at b1 b2 b3 b4 hRc hRs hcat
            refine vx_throwS (names := xNm) (text := text) (sa := sa) (A := A) X.1 X.2.1 X.2.2.2.2.2.2.2.2.2.2.1 X.2.2.2.1 x4 xNm_fit (X.2.2.2.2.1 _ (WS_of x1)) (X.2.2.2.2.1 _ (WS_of x2)) hsa ?_ x5 hWd.1 hWd.2.1 hV (by rw [X.2.2.1]; exact hL.1) hd c7 hd4 c8 c9 (fun z hz => ?_) (show 2 + 3 < R.frames by omega) (show _ + (13 * (2 + 1) + 43) ≤ R.locals by omega) (by dsimp only; omega) (by dsimp only; omega) hlocks (fun t hal hsz hk => ⟨⟨rfl, tys, ws, hE, (hH.keep hk hal).cs⟩, Nat.le_trans hV.1 hsz, fun q hq hA => ?_⟩) hV.2.2 (by dsimp only; omega) (by dsimp only; omega)
            · refine vx_hat (B := Bad) (fun w hw => X.2.2.2.2.1 w (List.mem_filter.mpr ⟨x3 w hw, (List.mem_filter.mp hw).2⟩)) x6 (fun w hw => ?_)
              obtain ⟨hsh, hnw⟩ := hWd.2.2.2.2.2.1 w hw
              rcases hsh with ⟨x, rfl⟩ | ⟨C, T, rfl⟩
              · exact va_Nw.use rfl hnw
              · exact va_Nw.use rfl hnw
            · rcases X.2.2.2.2.2.2.2.2.1 with ⟨h9, -⟩ | h9
              · rw [hnl] at h9; cases h9
              · rw [h9, c5] at hz
                cases hz
            · rw [hk q (Nat.lt_of_lt_of_le hq hV.1)]
              exact hV.2.1 q hq hA
          · cases h
        · cases h
  | invokevirtual y =>
    have hn1 : n = 3 := hn
    subst hn1
    replace h : i_inv cl M y pc L S g (g, mi, ml, mr) = some (.inr r0) := h
    unfold i_inv at h
    split at h
    · rename_i fe hfe
      unfold i_callV at h
      split at h
      · rename_i a S' hdr
        split at h
        · rename_i hc
          exact f_call hnl X (fun r' tys ws H locs ls st hr hH hL hS hV hb hm => inv_V X hcl h0 (Or.inl ⟨hd, hc.1⟩) hfe hdr hc.2.1 hc.2.2.1 hc.2.2.2.1 hc.2.2.2.2 hr hH hL hS hV hb hm) (fun r' hr => hcm _ _ (g, mi, ml, mr) _ hr) h
        · cases h
      · cases h
    · cases h
  | invokestatic y =>
    have hn1 : n = 3 := hn
    subst hn1
    replace h : i_invS cl d M y pc L S g mi ml mr = some (.inr r0) := h
    unfold i_invS at h
    split at h
    · rename_i fe hfe
      cases h6 : Nat.beq fe.1 6
      · rw [h6] at h
        simp only [cond_false] at h
        cases h7 : Nat.beq fe.1 7
        · rw [h7] at h
          simp only [cond_false] at h
          unfold i_callS at h
          split at h
          · rename_i hc
            exact f_call hnl X (fun r' tys ws H locs ls st hr hH hL hS hV hb hm => inv_S X hcl h0 hd hfe hc.1 hc.2.1 hc.2.2 hr hH hL hS hV hb hm) (fun r' hr => hcm _ _ (g, mi, ml, mr) _ hr) h
          · cases h
        · rw [h7] at h
          simp only [cond_true] at h
          unfold i_min nxt at h
          split at h <;> first | (cases h; done) | (split at h <;> cases h)
      · rw [h6] at h
        simp only [cond_true] at h
        unfold i_cpy nxt at h
        split at h <;> first | (cases h; done) | (split at h <;> cases h)
    · cases h
  | invokespecial y =>
    have hn1 : n = 3 := hn
    subst hn1
    replace h : i_invP cl d M y pc L S g (g, mi, ml, mr) = some (.inr r0) := h
    unfold i_invP at h
    split at h
    · rename_i fe hfe
      cases h5 : Nat.beq fe.1 5
      · rw [h5] at h
        simp only [cond_false] at h
        unfold i_callV at h
        split at h
        · rename_i a S' hdr
          split at h
          · rename_i hc
            exact f_call hnl X (fun r' tys ws H locs ls st hr hH hL hS hV hb hm => inv_V X hcl h0 (Or.inr ⟨hd, hc.1⟩) hfe hdr hc.2.1 hc.2.2.1 hc.2.2.2.1 hc.2.2.2.2 hr hH hL hS hV hb hm) (fun r' hr => hcm _ _ (g, mi, ml, mr) _ hr) h
          · cases h
        · cases h
      · rw [h5] at h
        simp only [cond_true] at h
        unfold i_obj nxt at h
        split at h <;> first | (cases h; done) | (split at h <;> cases h)
    · cases h
  | _ => exact absurd h (by
      intro h
      first
      | cases (show (none : Option (Cf ⊕ Res)) = some (.inr r0) from h)
      | (revert h
         unfold stI
         simp only [i_ld, i_st, i_stL, i_inc, i_dup, i_dup2, i_opI, i_opL, i_dvI, i_dvL, i_lcmp, i_i2l, i_l2i, i_goto, i_if, i_icmp, i_tab, i_getf, i_putf, i_iald, i_lald, i_aald, i_iast, i_bast, i_last, i_aast, i_len, i_newa, i_k, nxt, cond_eq_ite]
         intro h
         repeat' (split at h)
         all_goals cases h))
end SND8
