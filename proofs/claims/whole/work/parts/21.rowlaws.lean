/-! laws that the rows stand on -/
section ROWL
variable {d : Nat} {M : Mth} {pc k x j n : Nat} {L S : List Value} {g : Gh} {mi : MI} {ml : ML} {mr : MR}
theorem lenK {α : Type} {k : Nat} {S : List α} (h : k ≤ S.length) : k ≤ S.length := h
theorem okst_0 {v : Value} {L : List Value} : okst (v :: L) 0 = true := by
  unfold okst
  simp
theorem okst_s {i : Nat} {v : Value} (h : i + 1 < L.length) (hv : L[i]? = some v) (hc : v.category = 1) : okst L (i + 1) = true := by
  unfold okst
  rw [decide_eq_true h]
  simp only [hv, hc, decide_true, Bool.and_self]
theorem R_ist {a : Int32} (hd : decode (mB M) pc = .ok (.istore k, 2)) (ho : okst L k = true) : R d M pc L (.int a :: S) g mi ml mr = R d M (pc + 2) (L.set k (.int a)) S g mi ml mr := R_go hd rfl (by show (bif isI (.int a) && okst L k then _ else _) = _; rw [ho]; rfl)
theorem R_istn {a : Int32} {k : Fin 4} (hd : decode (mB M) pc = .ok (.istore_n k, 1)) (ho : okst L k.val = true) : R d M pc L (.int a :: S) g mi ml mr = R d M (pc + 1) (L.set k.val (.int a)) S g mi ml mr := R_go hd rfl (by show (bif isI (.int a) && okst L k.val then _ else _) = _; rw [ho]; rfl)
theorem R_ast {v : Value} (hd : decode (mB M) pc = .ok (.astore k, 2)) (hv : isO v = true) (ho : okst L k = true) : R d M pc L (v :: S) g mi ml mr = R d M (pc + 2) (L.set k v) S g mi ml mr := R_go hd rfl (by show (bif isO v && okst L k then _ else _) = _; rw [ho, hv]; rfl)
theorem R_astn {v : Value} {k : Fin 4} (hd : decode (mB M) pc = .ok (.astore_n k, 1)) (hv : isO v = true) (ho : okst L k.val = true) : R d M pc L (v :: S) g mi ml mr = R d M (pc + 1) (L.set k.val v) S g mi ml mr := R_go hd rfl (by show (bif isO v && okst L k.val then _ else _) = _; rw [ho, hv]; rfl)
theorem R_lst {a : Int64} (hd : decode (mB M) pc = .ok (.lstore k, 2)) (ho : okst L k = true) (hl : k + 1 < L.length) : R d M pc L (.long a :: S) g mi ml mr = R d M (pc + 2) ((L.set k (.long a)).set (k + 1) .null) S g mi ml mr := R_go hd rfl (by show (bif okst L k && decide (k + 1 < L.length) then _ else _) = _; rw [ho, decide_eq_true hl]; rfl)
theorem R_lstn {a : Int64} {k : Fin 4} (hd : decode (mB M) pc = .ok (.lstore_n k, 1)) (ho : okst L k.val = true) (hl : k.val + 1 < L.length) : R d M pc L (.long a :: S) g mi ml mr = R d M (pc + 1) ((L.set k.val (.long a)).set (k.val + 1) .null) S g mi ml mr := R_go hd rfl (by show (bif okst L k.val && decide (k.val + 1 < L.length) then _ else _) = _; rw [ho, decide_eq_true hl]; rfl)
theorem R_inc {a c : Int32} {y : Int} (hd : decode (mB M) pc = .ok (.iinc k y, 3)) (hv : L[k]? = some (.int a)) (ho : okst L k = true) (hy : Int32.ofInt y = c) : R d M pc L S g mi ml mr = R d M (pc + 3) (L.set k (.int (a + c))) S g mi ml mr := R_go hd rfl (by unfold stI; dsimp only; unfold i_inc; rw [hv]; dsimp only; rw [ho, hy]; rfl)
theorem clampN (h : j < 2147483648) : (nI j).toNatClampNeg = j := nI_clamp (by omega)
theorem posN (h : j < 2147483648) : 0 ≤ nI j := nI_pos' (by omega)
theorem R_iald (hd : decode (mB M) pc = .ok (.iaload, 1)) (hx : g.1 x = 20) (hj : j < g.2.1 x) (hb : j < 2147483648) : R d M pc L (.int (nI j) :: .ref x :: S) g mi ml mr = R d M (pc + 1) L (.int (mi x j) :: S) g mi ml mr := R_go hd rfl (by unfold stI; dsimp only; unfold i_iald; dsimp only; rw [clampN hb, if_pos ⟨Or.inl hx, posN hb, hj⟩]; rfl)
theorem R_sald (hM : isL M = true) (hd : decode (mB M) pc = .ok (.iaload, 1)) (hx : g.1 x = 30) (hj : j < g.2.1 x) (hb : j < 2147483648) : R d M pc L (.int (nI j) :: .ref x :: S) g mi ml mr = R d M (pc + 1) L (.int (mi x j) :: S) g mi ml mr := R_go hd rfl (by unfold stI; dsimp only; unfold i_iald; dsimp only; rw [clampN hb, if_pos ⟨Or.inr ⟨rfl, hx, hM⟩, posN hb, hj⟩]; rfl)
theorem R_bald (hd : decode (mB M) pc = .ok (.baload, 1)) (hx : g.1 x = 22) (hj : j < g.2.1 x) (hb : j < 2147483648) : R d M pc L (.int (nI j) :: .ref x :: S) g mi ml mr = R d M (pc + 1) L (.int (mi x j) :: S) g mi ml mr := R_go hd rfl (by unfold stI; dsimp only; unfold i_iald; dsimp only; rw [clampN hb, if_pos ⟨Or.inl hx, posN hb, hj⟩]; rfl)
theorem R_lald (hd : decode (mB M) pc = .ok (.laload, 1)) (hx : g.1 x = 21) (hj : j < g.2.1 x) (hb : j < 2147483648) : R d M pc L (.int (nI j) :: .ref x :: S) g mi ml mr = R d M (pc + 1) L (.long (ml x j) :: S) g mi ml mr := R_go hd rfl (by unfold stI; dsimp only; unfold i_lald; dsimp only; rw [clampN hb, if_pos ⟨hx, posN hb, hj⟩]; rfl)
theorem R_aald (hd : decode (mB M) pc = .ok (.aaload, 1)) (hx : g.1 x = 23 ∨ g.1 x = 24 ∨ g.1 x = 25) (hj : j < g.2.1 x) (hb : j < 2147483648) : R d M pc L (.int (nI j) :: .ref x :: S) g mi ml mr = R d M (pc + 1) L (.ref (mr x j) :: S) g mi ml mr := R_go hd rfl (by unfold stI; dsimp only; unfold i_aald; dsimp only; rw [clampN hb, if_pos ⟨hx, posN hb, hj⟩]; rfl)
theorem R_iast {v : Int32} (hd : decode (mB M) pc = .ok (.iastore, 1)) (hx : g.1 x = 20) (hj : j < g.2.1 x) (hb : j < 2147483648) : R d M pc L (.int v :: .int (nI j) :: .ref x :: S) g mi ml mr = R d M (pc + 1) L S g (u2 mi x j v) ml mr := R_go hd rfl (by unfold stI; dsimp only; unfold i_iast; dsimp only; rw [clampN hb, if_pos ⟨hx, posN hb, hj⟩]; rfl)
theorem R_bast {v : Int32} (hd : decode (mB M) pc = .ok (.bastore, 1)) (hx : g.1 x = 22) (hj : j < g.2.1 x) (hb : j < 2147483648) (hv : v = nI 0 ∨ v = nI 1) : R d M pc L (.int v :: .int (nI j) :: .ref x :: S) g mi ml mr = R d M (pc + 1) L S g (u2 mi x j v) ml mr := R_go hd rfl (by unfold stI; dsimp only; unfold i_bast; dsimp only; rw [clampN hb, if_pos ⟨hx, posN hb, hj, hv⟩]; rfl)
theorem R_last {v : Int64} (hd : decode (mB M) pc = .ok (.lastore, 1)) (hx : g.1 x = 21) (hj : j < g.2.1 x) (hb : j < 2147483648) : R d M pc L (.long v :: .int (nI j) :: .ref x :: S) g mi ml mr = R d M (pc + 1) L S g mi (u2 ml x j v) mr := R_go hd rfl (by unfold stI; dsimp only; unfold i_last; dsimp only; rw [clampN hb, if_pos ⟨hx, posN hb, hj⟩]; rfl)
theorem R_aast {v : Nat} (hd : decode (mB M) pc = .ok (.aastore, 1)) (hx : g.1 x = 23 ∨ g.1 x = 24 ∨ g.1 x = 25) (hj : j < g.2.1 x) (hb : j < 2147483648) (hv : g.1 v = elK (g.1 x)) : R d M pc L (.ref v :: .int (nI j) :: .ref x :: S) g mi ml mr = R d M (pc + 1) L S g mi ml (u2 mr x j v) := R_go hd rfl (by unfold stI; dsimp only; unfold i_aast; dsimp only; rw [clampN hb, if_pos ⟨hx, posN hb, hj, hv⟩]; rfl)
theorem R_newa {t : ArrayType} {kd : Nat} (hd : decode (mB M) pc = .ok (.newarray t, 2)) (hk : arK t = some kd) (hj : j ≤ 60000) (h1 : 1 ≤ g.2.2.2.1) (h2 : j ≤ g.2.2.2.2) : R d M pc L (.int (nI j) :: S) g mi ml mr = R d M (pc + 2) L (.ref g.2.2.1 :: S) (newG g kd j (g.2.2.2.1 - 1) (g.2.2.2.2 - j)) (z2 mi g.2.2.1 0) (z2 ml g.2.2.1 0) (z2 mr g.2.2.1 0) := R_go hd rfl (by unfold stI; dsimp only; unfold i_newa; rw [hk]; dsimp only; rw [clampN (by omega), if_pos ⟨posN (by omega), hj, h1, h2⟩]; rfl)
theorem R_anew {y kd : Nat} (hd : decode (mB M) pc = .ok (.anewarray y, 3)) (hk : lkp (mO M) y aT = some kd) (hj : j ≤ 60000) (h1 : 1 ≤ g.2.2.2.1) (h2 : j ≤ g.2.2.2.2) : R d M pc L (.int (nI j) :: S) g mi ml mr = R d M (pc + 3) L (.ref g.2.2.1 :: S) (newG g kd j (g.2.2.2.1 - 1) (g.2.2.2.2 - j)) (z2 mi g.2.2.1 0) (z2 ml g.2.2.1 0) (z2 mr g.2.2.1 0) := R_go hd rfl (by unfold stI; dsimp only; unfold i_newa; rw [hk]; dsimp only; rw [clampN (by omega), if_pos ⟨posN (by omega), hj, h1, h2⟩]; rfl)
theorem R_cpy {i y s t : Nat} (hd : decode (mB M) pc = .ok (.invokestatic i, 3)) (hk : (lkp (mO M) i cT).map (fun e => e.1) = some 6) (hx : g.1 x = 20) (hy : g.1 y = 20) (hs : s + n ≤ g.2.1 x) (ht : t + n ≤ g.2.1 y) (h1 : s < 2147483648) (h2 : t < 2147483648) (h3 : n < 2147483648) (hS : catS S ≤ 8) : R (d + 1) M pc L (.int (nI n) :: .int (nI t) :: .ref y :: .int (nI s) :: .ref x :: S) g mi ml mr = R (d + 1) M (pc + 3) L S g (r2 mi y (cpyI (mi x) (mi y) s t n)) ml mr := R_go hd rfl (by
  unfold stI
  dsimp only
  unfold i_invS
  cases he : lkp (mO M) i cT with
  | none => rw [he] at hk; cases hk
  | some e =>
    rw [he] at hk
    have h6 : e.1 = 6 := Option.some.inj hk
    dsimp only
    rw [h6]
    simp only [show Nat.beq 6 6 = true from rfl, cond_true]
    unfold i_cpy
    dsimp only
    rw [clampN h1, clampN h2, clampN h3, if_pos ⟨hx, hy, posN h1, posN h2, posN h3, hs, ht, hS, Nat.le_add_left 1 d⟩]
    rfl)
theorem R_thr {i is ic : Nat} {E : String} (hk : lkp (mO M) i nT = none) (hd : decode (mB M) pc = .ok (.new i, 3)) (h4 : decode (mB M) (pc + 4) = .ok (.ldc is, 2)) (h5 : decode (mB M) (pc + 3) = .ok (.dup, 1)) (h6 : decode (mB M) (pc + 6) = .ok (.invokespecial ic, 3)) (h7 : decode (mB M) (pc + 9) = .ok (.athrow, 1)) (he : lkp (mO M) i xT = some (E, ic)) (hs : (lkp (mO M) is sT).isSome = true) (h1 : 1 ≤ g.2.2.2.1) (h2 : 6 ≤ g.2.2.2.2) (h3 : catS S ≤ 8) (hM : mH M = []) : R (d + 6) M pc L S g mi ml mr = some (.inr E, (g.1, g.2.1, g.2.2.1, g.2.2.2.1 - 1, g.2.2.2.2 - 6), mi, ml, mr) := R_end hd rfl (by
  unfold stI
  dsimp only
  unfold i_new
  rw [hk]
  dsimp only
  rw [he]
  dsimp only
  rw [h4]
  exact if_pos ⟨h1, h2, Nat.le_add_left 6 d, h3, hM, hs, h5, h6, h7⟩)
theorem R_vret (hd : decode (mB M) pc = .ok (.return_, 1)) (hr : mR M = none) : R d M pc L [] g mi ml mr = some (.inl none, g, mi, ml, mr) := R_end hd rfl (by unfold stI; dsimp only; unfold i_ret; dsimp only; rw [if_pos hr]; rfl)
theorem R_iret {v : Int32} (hd : decode (mB M) pc = .ok (.ireturn, 1)) (hr : mR M = some .int) : R d M pc L [.int v] g mi ml mr = some (.inl (some (.int v)), g, mi, ml, mr) := R_end hd rfl (by unfold stI; dsimp only; unfold i_iret; dsimp only; rw [if_pos (Or.inl hr)]; rfl)
theorem R_zret {v : Int32} (hd : decode (mB M) pc = .ok (.ireturn, 1)) (hr : mR M = some .boolean) (hv : v = nI 0 ∨ v = nI 1) : R d M pc L [.int v] g mi ml mr = some (.inl (some (.int v)), g, mi, ml, mr) := R_end hd rfl (by unfold stI; dsimp only; unfold i_iret; dsimp only; rw [if_pos (Or.inr ⟨hr, hv⟩)]; rfl)
theorem R_lret {v : Int64} (hd : decode (mB M) pc = .ok (.lreturn, 1)) (hr : mR M = some .long) : R d M pc L [.long v] g mi ml mr = some (.inl (some (.long v)), g, mi, ml, mr) := R_end hd rfl (by unfold stI; dsimp only; unfold i_lret; dsimp only; rw [if_pos hr]; rfl)
theorem R_aret {v : Nat} (hd : decode (mB M) pc = .ok (.areturn, 1)) (hr : mR M = some (.object "TrunkGroup$End") ∨ mR M = some (.array .int)) (hv : v ≠ 0) : R d M pc L [.ref v] g mi ml mr = some (.inl (some (.ref v)), g, mi, ml, mr) := R_end hd rfl (by unfold stI; dsimp only; unfold i_aret; dsimp only; rw [if_pos ⟨hv, hr⟩]; rfl)
theorem cat_i {x : Int32} : (Value.int x).category = 1 := rfl
theorem cat_r {x : Nat} : (Value.ref x).category = 1 := rfl
theorem cat_l {x : Int64} : (Value.long x).category = 2 := rfl
theorem cat_n : Value.null.category = 1 := rfl
theorem cat_o {x : Nat} : (Value.retAddr x).category = 1 := rfl
end ROWL
