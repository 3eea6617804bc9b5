/-! one instruction, whichever it is; room is never given back -/
section MONO
def gx (x : Cf ⊕ Res) : Gh := match x with
  | .inl c => c.2.2.2.1
  | .inr r => r.2.1
def Le (g' g : Gh) : Prop := g'.2.2.2.1 ≤ g.2.2.2.1 ∧ g'.2.2.2.2 ≤ g.2.2.2.2
theorem Le.rf {g : Gh} : Le g g := ⟨Nat.le_refl _, Nat.le_refl _⟩
theorem nxt_le {pc : Nat} {L S : List Value} {h : Hh} {x : Cf ⊕ Res} (e : nxt pc L S h = some x) {g : Gh} (hg : Le h.1 g) : Le (gx x) g := by
  unfold nxt at e
  cases e
  exact hg
theorem fin_le {o : Out} {h : Hh} {x : Cf ⊕ Res} (e : fin o h = some x) {g : Gh} (hg : Le h.1 g) : Le (gx x) g := by
  unfold fin at e
  cases e
  exact hg
theorem newH_le {g : Gh} {mi : MI} {ml : ML} {mr : MR} {kd n sl : Nat} : Le (newH g mi ml mr kd n sl).1 g := ⟨Nat.sub_le _ _, Nat.sub_le _ _⟩
variable {cl : CallF} {M M' : Mth} {pc k n kd d : Nat} {L S : List Value} {g : Gh} {mi : MI} {ml : ML} {mr : MR} {x : Cf ⊕ Res}
theorem aft_le {r : Option Res} (hr : ∀ r', r = some r' → Le r'.2.1 g) (e : aft M pc L S r = some x) : Le (gx x) g := by
  unfold aft at e
  split at e
  · cases e
  · exact nxt_le e (hr _ rfl)
  · exact nxt_le e (hr _ rfl)
  · split at e
    · exact fin_le e (hr _ rfl)
    · split at e
      · cases e
      · exact nxt_le e (hr _ rfl)
theorem callV_le {ks : Nat → Bool} (hcm : CM cl) (e : i_callV cl ks M M' kd k pc L S g (g, mi, ml, mr) = some x) : Le (gx x) g := by
  unfold i_callV at e
  split at e
  · split at e
    · exact aft_le (fun r' hr' => hcm _ _ (g, mi, ml, mr) _ hr') e
    · cases e
  · cases e
theorem stI_le {i : Instr} (hcm : CM cl) (e : stI cl d M i pc L S g mi ml mr = some x) : Le (gx x) g := by
  cases i with
  | aload_n k => unfold stI i_ld at e; dsimp only at e; split at e <;> first | cases e; done | (rename_i v hv; cases hc : isR v <;> rw [hc] at e <;> first | exact nxt_le e Le.rf | cases e)
  | aload k => unfold stI i_ld at e; dsimp only at e; split at e <;> first | cases e; done | (rename_i v hv; cases hc : isR v <;> rw [hc] at e <;> first | exact nxt_le e Le.rf | cases e)
  | iload_n k => unfold stI i_ld at e; dsimp only at e; split at e <;> first | cases e; done | (rename_i v hv; cases hc : isI v <;> rw [hc] at e <;> first | exact nxt_le e Le.rf | cases e)
  | iload k => unfold stI i_ld at e; dsimp only at e; split at e <;> first | cases e; done | (rename_i v hv; cases hc : isI v <;> rw [hc] at e <;> first | exact nxt_le e Le.rf | cases e)
  | lload_n k => unfold stI i_ld at e; dsimp only at e; split at e <;> first | cases e; done | (rename_i v hv; cases hc : isJ v <;> rw [hc] at e <;> first | exact nxt_le e Le.rf | cases e)
  | lload k => unfold stI i_ld at e; dsimp only at e; split at e <;> first | cases e; done | (rename_i v hv; cases hc : isJ v <;> rw [hc] at e <;> first | exact nxt_le e Le.rf | cases e)
  | istore_n k => unfold stI i_st at e; dsimp only at e; split at e <;> first | cases e; done | (rename_i v S'; cases hc : (isI v && okst L k.val) <;> rw [hc] at e <;> first | exact nxt_le e Le.rf | cases e)
  | istore k => unfold stI i_st at e; dsimp only at e; split at e <;> first | cases e; done | (rename_i v S'; cases hc : (isI v && okst L k) <;> rw [hc] at e <;> first | exact nxt_le e Le.rf | cases e)
  | astore_n k => unfold stI i_st at e; dsimp only at e; split at e <;> first | cases e; done | (rename_i v S'; cases hc : (isO v && okst L k.val) <;> rw [hc] at e <;> first | exact nxt_le e Le.rf | cases e)
  | astore k => unfold stI i_st at e; dsimp only at e; split at e <;> first | cases e; done | (rename_i v S'; cases hc : (isO v && okst L k) <;> rw [hc] at e <;> first | exact nxt_le e Le.rf | cases e)
  | lstore_n k => unfold stI i_stL at e; dsimp only at e; split at e <;> first | cases e; done | (rename_i v S'; cases hc : (okst L k.val && decide (k.val + 1 < L.length)) <;> rw [hc] at e <;> first | exact nxt_le e Le.rf | cases e)
  | lstore k => unfold stI i_stL at e; dsimp only at e; split at e <;> first | cases e; done | (rename_i v S'; cases hc : (okst L k && decide (k + 1 < L.length)) <;> rw [hc] at e <;> first | exact nxt_le e Le.rf | cases e)
  | iinc k y => unfold stI i_inc at e; dsimp only at e; split at e <;> first | cases e; done | (cases hc : okst L k <;> rw [hc] at e <;> first | exact nxt_le e Le.rf | cases e)
  | iconst y => exact nxt_le e Le.rf
  | bipush y => exact nxt_le e Le.rf
  | sipush y => exact nxt_le e Le.rf
  | lconst y => exact nxt_le e Le.rf
  | ldc y => unfold stI i_k at e; dsimp only at e; split at e <;> first | exact nxt_le e Le.rf | cases e
  | ldc2_w y => unfold stI i_k at e; dsimp only at e; split at e <;> first | exact nxt_le e Le.rf | cases e
  | dup => unfold stI i_dup at e; dsimp only at e; split at e <;> first | exact nxt_le e Le.rf | cases e
  | dup2 => unfold stI i_dup2 at e; dsimp only at e; split at e <;> first | exact nxt_le e Le.rf | cases e
  | iadd => unfold stI i_opI at e; dsimp only at e; split at e <;> first | exact nxt_le e Le.rf | cases e
  | isub => unfold stI i_opI at e; dsimp only at e; split at e <;> first | exact nxt_le e Le.rf | cases e
  | imul => unfold stI i_opI at e; dsimp only at e; split at e <;> first | exact nxt_le e Le.rf | cases e
  | iand => unfold stI i_opI at e; dsimp only at e; split at e <;> first | exact nxt_le e Le.rf | cases e
  | ior => unfold stI i_opI at e; dsimp only at e; split at e <;> first | exact nxt_le e Le.rf | cases e
  | ishl => unfold stI i_opI at e; dsimp only at e; split at e <;> first | exact nxt_le e Le.rf | cases e
  | ishr => unfold stI i_opI at e; dsimp only at e; split at e <;> first | exact nxt_le e Le.rf | cases e
  | idiv => unfold stI i_dvI at e; dsimp only at e; split at e <;> first | cases e; done | (split at e <;> first | exact nxt_le e Le.rf | cases e)
  | irem => unfold stI i_dvI at e; dsimp only at e; split at e <;> first | cases e; done | (split at e <;> first | exact nxt_le e Le.rf | cases e)
  | ladd => unfold stI i_opL at e; dsimp only at e; split at e <;> first | exact nxt_le e Le.rf | cases e
  | lsub => unfold stI i_opL at e; dsimp only at e; split at e <;> first | exact nxt_le e Le.rf | cases e
  | lmul => unfold stI i_opL at e; dsimp only at e; split at e <;> first | exact nxt_le e Le.rf | cases e
  | ldiv => unfold stI i_dvL at e; dsimp only at e; split at e <;> first | cases e; done | (split at e <;> first | exact nxt_le e Le.rf | cases e)
  | lrem => unfold stI i_dvL at e; dsimp only at e; split at e <;> first | cases e; done | (split at e <;> first | exact nxt_le e Le.rf | cases e)
  | lcmp => unfold stI i_lcmp at e; dsimp only at e; split at e <;> first | exact nxt_le e Le.rf | cases e
  | i2l => unfold stI i_i2l at e; dsimp only at e; split at e <;> first | exact nxt_le e Le.rf | cases e
  | l2i => unfold stI i_l2i at e; dsimp only at e; split at e <;> first | exact nxt_le e Le.rf | cases e
  | goto off => unfold stI i_goto at e; dsimp only at e; cases hc : okt pc off <;> rw [hc] at e <;> first | exact nxt_le e Le.rf | cases e
  | ifCond op off => unfold stI i_if at e; dsimp only at e; split at e <;> first | cases e; done | (rename_i y S'; cases hc : okt pc off <;> rw [hc] at e <;> first | cases e | (cases hc2 : cmpB op y 0 <;> rw [hc2] at e <;> exact nxt_le e Le.rf))
  | if_icmp op off => unfold stI i_icmp at e; dsimp only at e; split at e <;> first | cases e; done | (rename_i y z S'; cases hc : okt pc off <;> rw [hc] at e <;> first | cases e | (cases hc2 : cmpB op z y <;> rw [hc2] at e <;> exact nxt_le e Le.rf))
  | tableswitch df lo hi offs => unfold stI i_tab at e; dsimp only at e; split at e <;> first | cases e; done | (split at e <;> first | (unfold i_goto at e; cases hc : okt pc df <;> rw [hc] at e <;> first | exact nxt_le e Le.rf | cases e) | (split at e <;> first | cases e; done | (rename_i off hoff; unfold i_goto at e; cases hc : okt pc off <;> rw [hc] at e <;> first | exact nxt_le e Le.rf | cases e)))
  | getfield y => unfold stI i_getf at e; dsimp only at e; split at e <;> first | cases e; done | (split at e <;> first | cases e; done | (split at e <;> first | exact nxt_le e Le.rf | cases e))
  | putfield y =>
    unfold stI i_putf at e
    dsimp only at e
    split at e
    · split at e
      · rename_i fe hfe
        cases hc : okF M fe.1 fe.2.2.2
        · rw [hc] at e; cases e
        · rw [hc] at e
          simp only [cond_true] at e
          split at e
          · split at e
            · split at e <;> first | exact nxt_le e Le.rf | cases e
            · split at e <;> first | exact nxt_le e Le.rf | cases e
            · split at e <;> first | exact nxt_le e Le.rf | cases e
            · cases e
          · cases e
      · cases e
    · cases e
  | iaload => unfold stI i_iald at e; dsimp only at e; split at e <;> first | cases e; done | (split at e <;> first | exact nxt_le e Le.rf | cases e)
  | baload => unfold stI i_iald at e; dsimp only at e; split at e <;> first | cases e; done | (split at e <;> first | exact nxt_le e Le.rf | cases e)
  | laload => unfold stI i_lald at e; dsimp only at e; split at e <;> first | cases e; done | (split at e <;> first | exact nxt_le e Le.rf | cases e)
  | aaload => unfold stI i_aald at e; dsimp only at e; split at e <;> first | cases e; done | (split at e <;> first | exact nxt_le e Le.rf | cases e)
  | iastore => unfold stI i_iast at e; dsimp only at e; split at e <;> first | cases e; done | (split at e <;> first | exact nxt_le e Le.rf | cases e)
  | bastore => unfold stI i_bast at e; dsimp only at e; split at e <;> first | cases e; done | (split at e <;> first | exact nxt_le e Le.rf | cases e)
  | lastore => unfold stI i_last at e; dsimp only at e; split at e <;> first | cases e; done | (split at e <;> first | exact nxt_le e Le.rf | cases e)
  | aastore => unfold stI i_aast at e; dsimp only at e; split at e <;> first | cases e; done | (split at e <;> first | exact nxt_le e Le.rf | cases e)
  | arraylength => unfold stI i_len at e; dsimp only at e; split at e <;> first | cases e; done | (split at e <;> first | exact nxt_le e Le.rf | cases e)
  | new y =>
    unfold stI i_new at e
    dsimp only at e
    split at e
    · split at e
      · exact nxt_le e newH_le
      · cases e
    · split at e
      · cases e
      · split at e
        · split at e
          · exact fin_le e ⟨Nat.sub_le _ _, Nat.sub_le _ _⟩
          · cases e
        · cases e
  | newarray t => unfold stI i_newa at e; dsimp only at e; split at e <;> first | cases e; done | (split at e <;> first | cases e; done | (split at e <;> first | exact nxt_le e newH_le | cases e))
  | anewarray t => unfold stI i_newa at e; dsimp only at e; split at e <;> first | cases e; done | (split at e <;> first | cases e; done | (split at e <;> first | exact nxt_le e newH_le | cases e))
  | invokevirtual y => unfold stI i_inv at e; dsimp only at e; split at e <;> first | exact callV_le hcm e | cases e
  | invokestatic y =>
    unfold stI i_invS at e
    dsimp only at e
    split at e
    · rename_i fe hfe
      cases h6 : Nat.beq fe.1 6
      · rw [h6] at e
        simp only [cond_false] at e
        cases h7 : Nat.beq fe.1 7
        · rw [h7] at e
          simp only [cond_false] at e
          unfold i_callS at e
          split at e
          · exact aft_le (fun r' hr' => hcm _ _ (g, mi, ml, mr) _ hr') e
          · cases e
        · rw [h7] at e
          simp only [cond_true] at e
          unfold i_min at e
          split at e <;> first | cases e; done | (split at e <;> first | exact nxt_le e Le.rf | cases e)
      · rw [h6] at e
        simp only [cond_true] at e
        unfold i_cpy at e
        split at e <;> first | cases e; done | (split at e <;> first | exact nxt_le e Le.rf | cases e)
    · cases e
  | invokespecial y =>
    unfold stI i_invP at e
    dsimp only at e
    split at e
    · rename_i fe hfe
      cases h5 : Nat.beq fe.1 5
      · rw [h5] at e
        simp only [cond_false] at e
        exact callV_le hcm e
      · rw [h5] at e
        simp only [cond_true] at e
        unfold i_obj at e
        split at e <;> first | cases e; done | (split at e <;> first | exact nxt_le e Le.rf | cases e)
    · cases e
  | ireturn => unfold stI i_iret at e; dsimp only at e; split at e <;> first | cases e; done | (split at e <;> first | exact fin_le e Le.rf | cases e)
  | lreturn => unfold stI i_lret at e; dsimp only at e; split at e <;> first | cases e; done | (split at e <;> first | exact fin_le e Le.rf | cases e)
  | areturn => unfold stI i_aret at e; dsimp only at e; split at e <;> first | cases e; done | (split at e <;> first | exact fin_le e Le.rf | cases e)
  | return_ => unfold stI i_ret at e; dsimp only at e; split at e <;> first | cases e; done | (split at e <;> first | exact fin_le e Le.rf | cases e)
  | _ => cases (show (none : Option (Cf ⊕ Res)) = some x from e)
theorem stp_le {c : Cf} (hcm : CM cl) (e : stp cl d M c = some x) : Le (gx x) c.2.2.2.1 := by
  unfold stp at e
  split at e
  · rename_i i n hd
    cases hc : Nat.beq n (ilen i n)
    · rw [hc] at e; cases e
    · rw [hc] at e
      exact stI_le hcm e
  · cases e
theorem runF_le (hcm : CM cl) {r : Res} : ∀ {n : Nat} {c : Cf}, runF (stp cl d M) n c = some r → Le r.2.1 c.2.2.2.1
  | 0, _, h => by cases h
  | n + 1, c, h => by
    unfold runF at h
    split at h
    · cases h
    · rename_i r' hr
      cases h
      exact stp_le hcm hr
    · rename_i c' hr
      have h1 := runF_le (n := n) hcm h
      have h2 : Le c'.2.2.2.1 c.2.2.2.1 := stp_le hcm hr
      exact ⟨Nat.le_trans h1.1 h2.1, Nat.le_trans h1.2 h2.2⟩
theorem callT_le : ∀ d, CM (callT d)
  | 0, _, _, _, _, h => by cases h
  | d + 1, M, as, h, r, e => by
    unfold callT at e
    cases hc : Nat.ble (ent as).length (mL M)
    · rw [hc] at e; cases e
    · rw [hc] at e
      obtain ⟨n, hn⟩ := (run_spec _ _ _).mp e
      exact runF_le (callT_le d) hn
end MONO
