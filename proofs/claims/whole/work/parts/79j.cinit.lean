/-! the class: its constructors -/
def kdS (i : Nat) : Nat := if i = 0 then 4 else if i = 1 then 22 else if i = 2 then 23 else if i = 3 then 24 else if i = 4 then 3 else if i < 8 then 20 else if i < 32 then 2 else 1
def lnS (i : Nat) : Nat := if i = 1 then 12 else if i = 2 then 24 else if i = 3 then 40 else if i = 5 then 2 else if i = 6 ∨ i = 7 then 32 else 0
def usS (k : Nat) : Nat := if k = 0 then 0 else if k = 1 then 9 else if k = 2 then 21 else if k = 3 then 45 else if k = 4 then 85 else if k = 5 then 93 else if k = 6 then 95 else if k = 7 then 127 else if k ≤ 32 then 159 + 11 * (k - 8) else 423 + 6 * (k - 32)
def iV (i f : Nat) : Int32 := if i = 0 ∧ f = 0 then nI 4 else if i = 4 ∧ f = 1 then nI 2 else if 8 ≤ i ∧ i < 32 ∧ f = 0 then nI ((i - 8) / 12) else if 8 ≤ i ∧ i < 32 ∧ f = 1 then nI ((i - 8) % 12) else if 8 ≤ i ∧ i < 32 ∧ f = 3 then -1 else 0
def zCh (a f : Nat) : Nat := if a = 0 then (if f = 1 then 1 else if f = 2 then 2 else if f = 4 then 3 else if f = 5 then 4 else 0) else if a = 4 then (if f = 4 then 5 else if f = 6 then 6 else if f = 7 then 7 else 0) else if a = 2 then (if f < 24 then 8 + f else 0) else if a = 3 then (if f < 40 then 32 + f else 0) else 0
/-- a state of which k pieces are made -/
def gS (s k : Nat) (g : Gh) : Gh := (fun a => if s ≤ a ∧ a < s + k then kdS (a - s) else g.1 a, fun a => if s ≤ a ∧ a < s + k then lnS (a - s) else g.2.1 a, s + k, g.2.2.2.1 - k, g.2.2.2.2 - usS k)
def iM (s k : Nat) (mi : MI) : MI := fun a f => if s ≤ a ∧ a < s + k then iV (a - s) f else mi a f
def lM (s k : Nat) (ml : ML) : ML := fun a f => if s ≤ a ∧ a < s + k then 0 else ml a f
def rM (s k o : Nat) (mr : MR) : MR := fun a f => if s ≤ a ∧ a < s + k then (if 0 < zCh (a - s) f ∧ zCh (a - s) f < k ∧ ¬ zCh (a - s) f = o then s + zCh (a - s) f else 0) else mr a f
section CINI
variable {s k d i j f a o v x kd n z pa pf : Nat} {g : Gh} {mi : MI} {ml : ML} {mr : MR}
theorem zch_gt : zCh a f = 0 ∨ a < zCh a f := by
  unfold zCh
  repeat' split
  all_goals omega
theorem zch_inj {a' f' : Nat} (h : zCh a f = zCh a' f') (h0 : 0 < zCh a' f') : a = a' ∧ f = f' := by
  have key : ∀ b h, 0 < zCh b h → b = (if zCh b h ≤ 4 then 0 else if zCh b h ≤ 7 then 4 else if zCh b h < 32 then 2 else 3) ∧ h = (if zCh b h = 1 then 1 else if zCh b h = 2 then 2 else if zCh b h = 3 then 4 else if zCh b h = 4 then 5 else if zCh b h = 5 then 4 else if zCh b h ≤ 7 then zCh b h else if zCh b h < 32 then zCh b h - 8 else zCh b h - 32) := by
    intro b h hb
    unfold zCh at hb ⊢
    by_cases b0 : b = 0
    · subst b0
      by_cases h1 : h = 1
      · subst h1; exact ⟨rfl, rfl⟩
      · by_cases h2 : h = 2
        · subst h2; exact ⟨rfl, rfl⟩
        · by_cases h4 : h = 4
          · subst h4; exact ⟨rfl, rfl⟩
          · by_cases h5 : h = 5
            · subst h5; exact ⟨rfl, rfl⟩
            · rw [if_pos rfl, if_neg h1, if_neg h2, if_neg h4, if_neg h5] at hb; omega
    · by_cases b4 : b = 4
      · subst b4
        by_cases h1 : h = 4
        · subst h1; exact ⟨rfl, rfl⟩
        · by_cases h2 : h = 6
          · subst h2; exact ⟨rfl, rfl⟩
          · by_cases h4 : h = 7
            · subst h4; exact ⟨rfl, rfl⟩
            · rw [if_neg (by decide), if_pos rfl, if_neg h1, if_neg h2, if_neg h4] at hb; omega
      · rw [if_neg b0, if_neg b4] at hb ⊢
        by_cases b2 : b = 2
        · subst b2
          rw [if_pos rfl] at hb ⊢
          by_cases h1 : h < 24
          · rw [if_pos h1, if_neg (by omega), if_neg (by omega), if_pos (by omega), if_neg (by omega), if_neg (by omega), if_neg (by omega), if_neg (by omega), if_neg (by omega), if_neg (by omega), if_pos (by omega)]
            omega
          · rw [if_neg h1] at hb; omega
        · rw [if_neg b2] at hb ⊢
          by_cases b3 : b = 3
          · subst b3
            rw [if_pos rfl] at hb ⊢
            by_cases h1 : h < 40
            · rw [if_pos h1, if_neg (by omega), if_neg (by omega), if_neg (by omega), if_neg (by omega), if_neg (by omega), if_neg (by omega), if_neg (by omega), if_neg (by omega), if_neg (by omega), if_neg (by omega)]
              omega
            · rw [if_neg h1] at hb; omega
          · rw [if_neg b3] at hb; omega
  have k1 := key a f (by omega)
  have k2 := key a' f' h0
  rw [h] at k1
  exact ⟨k1.1.trans k2.1.symm, k1.2.trans k2.2.symm⟩
theorem gS_0 (h : g.2.2.1 = s) : gS s 0 g = g := by
  subst h
  refine Prod.ext (funext fun a => ?_) (Prod.ext (funext fun a => ?_) (Prod.ext rfl (Prod.ext rfl rfl)))
  · exact if_neg (by omega)
  · exact if_neg (by omega)
theorem gS_n : (gS s k g).2.2.1 = s + k := rfl
theorem gS_k (h : i < k) : (gS s k g).1 (s + i) = kdS i := by
  show (if s ≤ s + i ∧ s + i < s + k then kdS (s + i - s) else g.1 (s + i)) = kdS i
  rw [if_pos (by omega), show s + i - s = i by omega]
theorem gS_l (h : i < k) : (gS s k g).2.1 (s + i) = lnS i := by
  show (if s ≤ s + i ∧ s + i < s + k then lnS (s + i - s) else g.2.1 (s + i)) = lnS i
  rw [if_pos (by omega), show s + i - s = i by omega]
theorem gS_o (h : a < s ∨ s + k ≤ a) : (gS s k g).1 a = g.1 a ∧ (gS s k g).2.1 a = g.2.1 a := ⟨if_neg (by omega), if_neg (by omega)⟩
theorem gS_new (hk : kdS k = kd) (hl : lnS k = n) (hu : usS (k + 1) = usS k + z) : newG (gS s k g) kd n ((gS s k g).2.2.2.1 - 1) ((gS s k g).2.2.2.2 - z) = gS s (k + 1) g := by
  have h1 : ∀ {F G : Nat → Nat} {y : Nat}, G k = y → (u1 (fun a => if s ≤ a ∧ a < s + k then G (a - s) else F a) (s + k) y) = fun a => if s ≤ a ∧ a < s + (k + 1) then G (a - s) else F a := fun {F G y} hG => funext fun a => by
    by_cases h : a = s + k
    · subst h
      rw [u1_s]
      show y = if s ≤ s + k ∧ s + k < s + (k + 1) then G (s + k - s) else F (s + k)
      rw [if_pos (by omega), show s + k - s = k by omega]
      exact hG.symm
    · rw [u1_n h]
      show (if s ≤ a ∧ a < s + k then G (a - s) else F a) = if s ≤ a ∧ a < s + (k + 1) then G (a - s) else F a
      by_cases h2 : s ≤ a ∧ a < s + k
      · rw [if_pos h2, if_pos (by omega)]
      · rw [if_neg h2, if_neg (by omega)]
  refine Prod.ext (h1 hk) (Prod.ext (h1 hl) (Prod.ext rfl (Prod.ext ?_ ?_)))
  · show g.2.2.2.1 - k - 1 = g.2.2.2.1 - (k + 1)
    omega
  · show g.2.2.2.2 - usS k - z = g.2.2.2.2 - usS (k + 1)
    rw [hu]; omega
theorem iM_0 : iM s 0 mi = mi := funext fun a => funext fun f => if_neg (by omega)
theorem lM_0 : lM s 0 ml = ml := funext fun a => funext fun f => if_neg (by omega)
theorem rM_0 : rM s 0 o mr = mr := funext fun a => funext fun f => if_neg (by omega)
theorem iM_at (h : i < k) : iM s k mi (s + i) f = iV i f := by
  unfold iM
  rw [if_pos (by omega), show s + i - s = i by omega]
theorem iM_o (h : a < s ∨ s + k ≤ a) : iM s k mi a = mi a := funext fun f => if_neg (by omega)
theorem lM_o (h : a < s ∨ s + k ≤ a) : lM s k ml a = ml a := funext fun f => if_neg (by omega)
theorem rM_o (h : a < s ∨ s + k ≤ a) : rM s k o mr a = mr a := funext fun f => if_neg (by omega)
theorem rM_at (h : pa < k) (hv : zCh pa pf = v) (h1 : 0 < v) (h2 : v < k) (h3 : ¬ v = o) : rM s k o mr (s + pa) pf = s + v := by
  unfold rM
  rw [if_pos (by omega), show s + pa - s = pa by omega, hv, if_pos ⟨h1, h2, h3⟩]
theorem M_z {α : Type} {G : Nat → Nat → α} {F F' : Nat → Nat → α} {y : α} (h1 : ∀ a f, s ≤ a → a < s + k → F' a f = F a f) (h2 : ∀ f, F' (s + k) f = y) (h3 : ∀ a f, a < s ∨ s + (k + 1) ≤ a → F' a f = F a f) : z2 F (s + k) y = F' := funext fun a => funext fun f => by
  unfold z2
  by_cases h : a = s + k
  · subst h; rw [if_pos rfl, h2]
  · rw [if_neg h]
    by_cases h4 : s ≤ a ∧ a < s + k
    · rw [h1 a f h4.1 h4.2]
    · rw [h3 a f (by omega)]
theorem iM_1 (h1 : s ≤ a) (h2 : a < s + k) : iM s (k + 1) mi a f = iM s k mi a f := by
  unfold iM; rw [if_pos (by omega), if_pos (by omega)]
theorem iM_2 (h : a < s ∨ s + (k + 1) ≤ a) : iM s (k + 1) mi a f = iM s k mi a f := by
  unfold iM; rw [if_neg (by omega), if_neg (by omega)]
theorem iM_new (h : ∀ f, iV k f = 0) : z2 (iM s k mi) (s + k) 0 = iM s (k + 1) mi := M_z (G := mi) (fun _ _ => iM_1) (fun f => (iM_at (by omega)).trans (h f)) (fun _ _ => iM_2)
theorem lM_new : z2 (lM s k ml) (s + k) 0 = lM s (k + 1) ml := M_z (G := ml) (fun a f h1 h2 => by unfold lM; rw [if_pos (by omega), if_pos (by omega)]) (fun f => if_pos (by omega)) (fun a f h => by unfold lM; rw [if_neg (by omega), if_neg (by omega)])
theorem u2_ev {α : Type} {F : Nat → Nat → α} {y : α} {b : Nat} : u2 F a i y b f = if b = a ∧ f = i then y else F b f := rfl
theorem z2_ev {α : Type} {F : Nat → Nat → α} {y : α} {b : Nat} : z2 F a y b f = if b = a then y else F b f := rfl
theorem rM_new (hc : zCh pa pf = k) (hp : pa < k) (ho : ¬ k = o) : u2 (z2 (rM s k o mr) (s + k) 0) (s + pa) pf (s + k) = rM s (k + 1) o mr := funext fun a => funext fun f => by
  rw [u2_ev, z2_ev]
  by_cases h1 : a = s + pa ∧ f = pf
  · obtain ⟨rfl, rfl⟩ := h1
    rw [if_pos ⟨rfl, rfl⟩]
    exact (rM_at (by omega) hc (by omega) (by omega) ho).symm
  · rw [if_neg h1]
    unfold rM
    by_cases h2 : a = s + k
    · subst h2
      have := zch_gt (a := k) (f := f)
      rw [if_pos rfl, if_pos (by omega), show s + k - s = k by omega, if_neg (by omega)]
    · rw [if_neg h2]
      by_cases h3 : s ≤ a ∧ a < s + k
      · rw [if_pos h3, if_pos (show s ≤ a ∧ a < s + (k + 1) by omega)]
        have h4 : ¬ zCh (a - s) f = k := fun h9 => by
          obtain ⟨e1, e2⟩ := zch_inj (h9.trans hc.symm) (by omega)
          exact h1 ⟨by omega, e2⟩
        by_cases h5 : 0 < zCh (a - s) f ∧ zCh (a - s) f < k ∧ ¬ zCh (a - s) f = o
        · rw [if_pos h5, if_pos ⟨h5.1, by omega, h5.2.2⟩]
        · rw [if_neg h5, if_neg (by omega)]
      · rw [if_neg h3, if_neg (by omega)]
/-- a piece to which nothing leads yet -/
theorem rM_hole : z2 (rM s k k mr) (s + k) 0 = rM s (k + 1) k mr := funext fun a => funext fun f => by
  rw [z2_ev]
  unfold rM
  by_cases h2 : a = s + k
  · subst h2
    have := zch_gt (a := k) (f := f)
    rw [if_pos rfl, if_pos (by omega), show s + k - s = k by omega, if_neg (by omega)]
  · rw [if_neg h2]
    by_cases h3 : s ≤ a ∧ a < s + k
    · rw [if_pos h3, if_pos (show s ≤ a ∧ a < s + (k + 1) by omega)]
      by_cases h5 : 0 < zCh (a - s) f ∧ zCh (a - s) f < k ∧ ¬ zCh (a - s) f = k
      · rw [if_pos h5, if_pos (by omega)]
      · rw [if_neg h5, if_neg (by omega)]
    · rw [if_neg h3, if_neg (by omega)]
theorem rM_ho (h : k ≤ o) : rM s k o mr = rM s k 0 mr := funext fun a => funext fun f => by
  unfold rM
  by_cases h3 : s ≤ a ∧ a < s + k
  · rw [if_pos h3, if_pos h3]
    by_cases h5 : 0 < zCh (a - s) f ∧ zCh (a - s) f < k ∧ ¬ zCh (a - s) f = o
    · rw [if_pos h5, if_pos (by omega)]
    · rw [if_neg h5, if_neg (by omega)]
  · rw [if_neg h3, if_neg h3]
theorem rM_fill (hc : zCh pa pf = o) (h0 : 0 < o) (hp : pa < o) (hk : o < k) : u2 (rM s k o mr) (s + pa) pf (s + o) = rM s k 0 mr := funext fun a => funext fun f => by
  rw [u2_ev]
  by_cases h1 : a = s + pa ∧ f = pf
  · obtain ⟨rfl, rfl⟩ := h1
    rw [if_pos ⟨rfl, rfl⟩]
    exact (rM_at (by omega) hc (by omega) (by omega) (by omega)).symm
  · rw [if_neg h1]
    unfold rM
    by_cases h3 : s ≤ a ∧ a < s + k
    · rw [if_pos h3, if_pos h3]
      have h4 : ¬ zCh (a - s) f = o := fun h9 => by
        obtain ⟨e1, e2⟩ := zch_inj (h9.trans hc.symm) (by omega)
        exact h1 ⟨by omega, e2⟩
      by_cases h5 : 0 < zCh (a - s) f ∧ zCh (a - s) f < k ∧ ¬ zCh (a - s) f = o
      · rw [if_pos h5, if_pos (by omega)]
      · rw [if_neg h5, if_neg (by omega)]
    · rw [if_neg h3, if_neg h3]
end CINI
