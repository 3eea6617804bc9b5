/-! the class: messages -/
section CSND
variable {s off N n a1 a2 b1 b2 L L' e c w k v j f a d o z x S : Nat} {r r' : Nat → Int32} {q : Nat → Int64} {g g' : Gh} {mi mi' : MI} {ml ml' : ML} {mr mr' : MR} {m : Ms} {y : Int32}
theorem nI_or {a b : Nat} (ha : a < 2 ^ 32) (hb : b < 2 ^ 32) : nI a ||| nI b = nI (a ||| b) := by
  apply Int32.toBitVec_inj.mp
  apply BitVec.eq_of_toNat_eq
  rw [Int32.toBitVec_or, BitVec.toNat_or, pk_tn ha, pk_tn hb, pk_tn (Nat.or_lt_two_pow ha hb)]
theorem or_add {a b i : Nat} (ha : a < 2 ^ i) (hb : a + 2 ^ i * b < 2 ^ 32) : nI a ||| nI (b * 2 ^ i) = nI (a + 2 ^ i * b) := by
  have h1 : b * 2 ^ i = 2 ^ i * b := Nat.mul_comm _ _
  rw [nI_or (by omega) (by omega), h1, Nat.or_comm, ← Nat.two_pow_add_eq_or_of_lt ha b, Nat.add_comm]
theorem sh1 : ((nI 1 &&& 31).toBitVec.smod 32).toNat = 1 := by decide
theorem sh5 : ((nI 5 &&& 31).toBitVec.smod 32).toNat = 5 := by decide
theorem sh9 : ((nI 9 &&& 31).toBitVec.smod 32).toNat = 9 := by decide
theorem sh12 : ((nI 12 &&& 31).toBitVec.smod 32).toNat = 12 := by decide
theorem ct_make (he : e < 2) (hc : c < 12) (hk : k < 14) (hv : v < 8) (hz : z ≤ 40) : (((nI e ||| nI c <<< (nI 1 &&& 31)) ||| nI k <<< (nI 5 &&& 31)) ||| nI v <<< (nI 9 &&& 31)) ||| nI z <<< (nI 12 &&& 31) = nI (ctN (a, e, c, k, v, x) z) := by
  rw [pk_shlN _ 1 sh1 (by omega), pk_shlN _ 5 sh5 (by omega), pk_shlN _ 9 sh9 (by omega), pk_shlN _ 12 sh12 (by omega)]
  rw [or_add (i := 1) (by omega) (by omega), or_add (i := 5) (by omega) (by omega), or_add (i := 9) (by omega) (by omega), or_add (i := 12) (by omega) (by omega)]
  rfl
theorem ct_e (hm : okM m) (hz : z ≤ 40) : nI (ctN m z) &&& nI 1 = nI m.2.1 := by
  obtain ⟨h1, h2, h3, h4, h5, h6, -⟩ := hm
  rw [pk_andN (by unfold ctN; omega) 1 (by decide)]
  congr 1; unfold ctN; omega
theorem ct_c (hm : okM m) (hz : z ≤ 40) : nI (ctN m z) >>> (nI 1 &&& 31) &&& nI 15 = nI m.2.2.1 := by
  obtain ⟨h1, h2, h3, h4, h5, h6, -⟩ := hm
  rw [pk_shrN (by unfold ctN; omega) _ 1 sh1, pk_andN (by unfold ctN; omega) 4 (by decide)]
  congr 1; unfold ctN; omega
theorem ct_k (hm : okM m) (hz : z ≤ 40) : nI (ctN m z) >>> (nI 5 &&& 31) &&& nI 15 = nI m.2.2.2.1 := by
  obtain ⟨h1, h2, h3, h4, h5, h6, -⟩ := hm
  rw [pk_shrN (by unfold ctN; omega) _ 5 sh5, pk_andN (by unfold ctN; omega) 4 (by decide)]
  congr 1; unfold ctN; omega
theorem ct_v (hm : okM m) (hz : z ≤ 40) : nI (ctN m z) >>> (nI 9 &&& 31) &&& nI 7 = nI m.2.2.2.2.1 := by
  obtain ⟨h1, h2, h3, h4, h5, h6, -⟩ := hm
  rw [pk_shrN (by unfold ctN; omega) _ 9 sh9, pk_andN (by unfold ctN; omega) 3 (by decide)]
  congr 1; unfold ctN; omega
theorem ct_n (hm : okM m) (hz : z ≤ 40) : nI (ctN m z) >>> (nI 12 &&& 31) = nI z := by
  obtain ⟨h1, h2, h3, h4, h5, h6, -⟩ := hm
  rw [pk_shrN (by unfold ctN; omega) _ 12 sh12]
  congr 1; unfold ctN; omega
/-- the same state in another memory -/
theorem CS.move (h : CS s off N n a1 a2 L r q g mi mr) (hg : ∀ a, s ≤ a → a < s + 72 → g'.1 a = g.1 a ∧ g'.2.1 a = g.2.1 a) (hm : ∀ a, s ≤ a → a < s + 72 → ¬ a = s + 6 → ¬ a = s + 7 → mi' a = mi a) (hr : ∀ a f, s ≤ a → a < s + 72 → ¬ (a = s + 4 ∧ (f = 6 ∨ f = 7)) → mr' a f = mr a f) (hsa : SA s b1 b2 L' g' mr') (hL : L ≤ L') (h1 : ∀ i, i < off + n → mi' b1 i = mi a1 i) (h2 : ∀ i, i < off + n → mi' b2 i = mi a2 i) : CS s off N n b1 b2 L' r q g' mi' mr' := by
  obtain ⟨⟨⟨c1, c2, c3, c4, c5⟩, ⟨c6, c7, c8, c9, c10, c11⟩, ⟨c12, c13, c14, c15⟩, c16, c17⟩, d2, ⟨d3, d4, d5⟩, ⟨d6, d7, d8, d9⟩, d10, d11⟩ := h
  have hg1 : ∀ i, i < 72 → g'.1 (s + i) = g.1 (s + i) := fun i hi => (hg (s + i) (by omega) (by omega)).1
  have hg2 : ∀ i, i < 72 → g'.2.1 (s + i) = g.2.1 (s + i) := fun i hi => (hg (s + i) (by omega) (by omega)).2
  have hea : ∀ {e c f}, e < 2 → c < 12 → mi' (eA s e c) f = mi (eA s e c) f := fun {e c f} he hc => by rw [hm (eA s e c) (by unfold eA; omega) (by unfold eA; omega) (by unfold eA; omega) (by unfold eA; omega)]
  refine ⟨⟨⟨(hg1 0 (by decide)).trans c1, ?_, ?_, ?_, ?_⟩, ⟨(hg1 1 (by decide)).trans c6, (hg2 1 (by decide)).trans c7, (hg1 2 (by decide)).trans c8, (hg2 2 (by decide)).trans c9, (hg1 3 (by decide)).trans c10, (hg2 3 (by decide)).trans c11⟩, ⟨(hg1 4 (by decide)).trans c12, ?_, (hg1 5 (by decide)).trans c14, (hg2 5 (by decide)).trans c15⟩, fun i hi => ?_, fun i hi => ?_⟩, hsa, ⟨d3.mem (fun b f hb hb2 hb6 hb7 => by rw [hm b hb hb2 hb6 hb7]), fun e' c' he' hc' => ?_, fun e' c' he' hc' => ?_⟩, ⟨d6, ?_, by omega, d9⟩, fun i hi => ?_, fun i hi => ?_⟩
  · rw [hr _ _ (by omega) (by omega) (by omega)]; exact c2
  · rw [hr _ _ (by omega) (by omega) (by omega)]; exact c3
  · rw [hr _ _ (by omega) (by omega) (by omega)]; exact c4
  · rw [hr _ _ (by omega) (by omega) (by omega)]; exact c5
  · rw [hr _ _ (by omega) (by omega) (by omega)]; exact c13
  · rw [show s + 8 + i = s + (8 + i) by omega, hg1 (8 + i) (by omega), hr _ _ (by omega) (by omega) (by omega), ← show s + 8 + i = s + (8 + i) by omega]; exact c16 i hi
  · unfold cA at c17 ⊢
    rw [show s + 32 + i = s + (32 + i) by omega, hg1 (32 + i) (by omega), hr _ _ (by omega) (by omega) (by omega), ← show s + 32 + i = s + (32 + i) by omega]; exact c17 i hi
  · rw [hea he' hc']; exact d4 e' c' he' hc'
  · rw [hea he' hc', hea he' hc']; exact d5 e' c' he' hc'
  · rw [hm (s + 4) (by omega) (by omega) (by omega) (by omega)]; exact d7
  · rw [h1 _ (by omega), h2 _ (by omega)]; exact d10 i hi
  · rw [h1 _ (by omega)]; exact d11 i hi
/-- what changes, and what doesn't -/
def Fr (s a1 a2 : Nat) (g : Gh) (mi : MI) (ml : ML) (mr : MR) (b1 b2 : Nat) (g' : Gh) (mi' : MI) (ml' : ML) (mr' : MR) : Prop := (∀ a, a < g.2.2.1 → ml' a = ml a ∧ g'.1 a = g.1 a ∧ g'.2.1 a = g.2.1 a ∧ (¬ (s ≤ a ∧ a < s + 72) → ¬ a = a1 → ¬ a = a2 → mi' a = mi a ∧ mr' a = mr a)) ∧ g.2.2.1 ≤ g'.2.2.1 ∧ (b1 = a1 ∨ g.2.2.1 ≤ b1) ∧ (b2 = a2 ∨ g.2.2.1 ≤ b2)
def RmC (L : Nat) (g : Gh) : Prop := 130000 ≤ g.2.2.2.1 + L ∧ 600000 ≤ g.2.2.2.2 + 4 * L
def RmD (L : Nat) (g : Gh) (L' : Nat) (g' : Gh) : Prop := g.2.2.2.1 + L ≤ g'.2.2.2.1 + L' ∧ g.2.2.2.2 + 4 * L ≤ g'.2.2.2.2 + 4 * L'
def Tr (s a1 a2 L : Nat) (g : Gh) (mi : MI) (ml : ML) (mr : MR) (b1 b2 L' : Nat) (g' : Gh) (mi' : MI) (ml' : ML) (mr' : MR) : Prop := Fr s a1 a2 g mi ml mr b1 b2 g' mi' ml' mr' ∧ RmD L g L' g'
theorem RmC.dd (h : RmC L g) (h2 : RmD L g L' g') : RmC L' g' := ⟨Nat.le_trans h.1 h2.1, Nat.le_trans h.2 h2.2⟩
theorem Tr.rf : Tr s a1 a2 L g mi ml mr a1 a2 L g mi ml mr := ⟨⟨fun a _ => ⟨rfl, rfl, rfl, fun _ _ _ => ⟨rfl, rfl⟩⟩, Nat.le_refl _, Or.inl rfl, Or.inl rfl⟩, Nat.le_refl _, Nat.le_refl _⟩
theorem Tr.tr {g2 : Gh} {m2 : MI} {l2 : ML} {r2' : MR} {c1 c2 L2 : Nat} (h : Tr s a1 a2 L g mi ml mr b1 b2 L' g' mi' ml' mr') (h2 : Tr s b1 b2 L' g' mi' ml' mr' c1 c2 L2 g2 m2 l2 r2') : Tr s a1 a2 L g mi ml mr c1 c2 L2 g2 m2 l2 r2' := by
  obtain ⟨⟨f1, f2, f3, f4⟩, f5, f6⟩ := h
  obtain ⟨⟨k1, k2, k3, k4⟩, k5, k6⟩ := h2
  refine ⟨⟨fun a ha => ?_, by omega, by omega, by omega⟩, by omega, by omega⟩
  obtain ⟨x1, x2, x3, x4⟩ := f1 a ha
  obtain ⟨y1, y2, y3, y4⟩ := k1 a (by omega)
  refine ⟨y1.trans x1, y2.trans x2, y3.trans x3, fun z1 z2 z3 => ?_⟩
  obtain ⟨x5, x6⟩ := x4 z1 z2 z3
  obtain ⟨y5, y6⟩ := y4 z1 (by omega) (by omega)
  exact ⟨y5.trans x5, y6.trans x6⟩
/-- one place of the state is written -/
theorem Tr.up (h : Tr s a1 a2 L g mi ml mr b1 b2 L' g' mi' ml' mr') (ha : s ≤ a) (ha2 : a < s + 72) {y : Int32} : Tr s a1 a2 L g mi ml mr b1 b2 L' g' (u2 mi' a f y) ml' mr' := by
  refine ⟨⟨fun b hb => ?_, h.1.2⟩, h.2⟩
  obtain ⟨x1, x2, x3, x4⟩ := h.1.1 b hb
  refine ⟨x1, x2, x3, fun z1 z2 z3 => ?_⟩
  rw [u2_row (by omega)]
  exact x4 z1 z2 z3
theorem Tr.eA_ (h : Tr s a1 a2 L g mi ml mr b1 b2 L' g' mi' ml' mr') (he : e < 2) (hc : c < 12) {y : Int32} : Tr s a1 a2 L g mi ml mr b1 b2 L' g' (u2 mi' (eA s e c) f y) ml' mr' := h.up (show s ≤ s + 8 + (e * 12 + c) by omega) (show s + 8 + (e * 12 + c) < s + 72 by omega)
theorem Tr.cA_ (h : Tr s a1 a2 L g mi ml mr b1 b2 L' g' mi' ml' mr') (hn : n < 40) {y : Int32} : Tr s a1 a2 L g mi ml mr b1 b2 L' g' (u2 mi' (cA s n) f y) ml' mr' := h.up (show s ≤ s + 32 + n by omega) (show s + 32 + n < s + 72 by omega)
/-- what a method of the class's state leaves -/
def CRs (s off N a1 a2 L : Nat) (g : Gh) (mi : MI) (ml : ML) (mr : MR) (o : Option Res) (ret : Option Value) (p : PS) : Prop := ∃ n' b1 b2 L' g' mi' ml' mr', o = some (.inl ret, g', mi', ml', mr') ∧ CS s off N n' b1 b2 L' p.1 p.2 g' mi' mr' ∧ Tr s a1 a2 L g mi ml mr b1 b2 L' g' mi' ml' mr'
/-- how the class finds a message's place -/
def cPos (A : Nat → Int32) (y : Int32) : Nat → Nat
  | 0 => 0
  | n + 1 => if A n ≤ y then n + 1 else cPos A y n
theorem cPos_off {A : Nat → Int32} {t D : Nat} (h2 : r 2 = nI t) (ht : t + D < 2000000) (hp : ∀ i, i < off → A i = r 2) : cPos A (nI (t + D)) off = off := by
  cases off with
  | zero => rfl
  | succ i =>
    show (if A i ≤ nI (t + D) then i + 1 else _) = i + 1
    rw [hp i (Nat.lt_succ_self i), h2, if_pos (nI_le (by omega) (by omega))]
theorem cPos_q {A B : Nat → Int32} {t D : Nat} (h2 : r 2 = nI t) (ht : t + D < 2000000) (hp : ∀ i, i < off → A i = r 2) : ∀ n, (∀ i, i < n → MQc (q i) (A (off + i)) (B (off + i))) → cPos A (nI (t + D)) (off + n) = off + mPos q (lN (t + D)) n
  | 0, _ => cPos_off h2 ht hp
  | n + 1, hq => by
    have ih := cPos_q h2 ht hp n (fun i hi => hq i (Nat.lt_succ_of_lt hi))
    obtain ⟨m, z, k1, k2, k3, -⟩ := hq n (Nat.lt_succ_self n)
    show (if A (off + n) ≤ nI (t + D) then off + n + 1 else cPos A (nI (t + D)) (off + n)) = off + (if q n / lN 262144 ≤ lN (t + D) then n + 1 else mPos q (lN (t + D)) n)
    have hm := k2.1
    rw [k1, k2.ar, k3, ih]
    by_cases hc : m.1 ≤ t + D
    · rw [if_pos (nI_le hc (by omega)), if_pos ((pk_lLE (by omega) (by omega)).mpr hc)]; rfl
    · rw [if_neg (fun h9 => hc ((nI_leI (by omega) (by omega)).mp h9)), if_neg (fun h9 => hc ((pk_lLE (by omega) (by omega)).mp h9))]
/-- two rows of memory -/
def M2 (mi : MI) (a1 a2 : Nat) (X Y : Nat → Int32) : MI := r2 (r2 mi a1 X) a2 Y
section M2S
variable {X Y : Nat → Int32} {b : Nat}
theorem M2_1 (h : ¬ a1 = a2) : M2 mi a1 a2 X Y a1 = X := by unfold M2; rw [r2_n h, r2_s]
theorem M2_2 : M2 mi a1 a2 X Y a2 = Y := by unfold M2; rw [r2_s]
theorem M2_o (h1 : ¬ b = a1) (h2 : ¬ b = a2) : M2 mi a1 a2 X Y b = mi b := by unfold M2; rw [r2_n h2, r2_n h1]
theorem M2_u1 (h : ¬ a1 = a2) : u2 (M2 mi a1 a2 X Y) a1 j y = M2 mi a1 a2 (u1 X j y) Y := by
  rw [u2_r2, M2_1 h]
  funext b
  unfold M2
  by_cases h1 : b = a1
  · subst h1; rw [r2_s, r2_n h, r2_s]
  · rw [r2_n h1]
    by_cases h2 : b = a2
    · subst h2; rw [r2_s, r2_s]
    · rw [r2_n h2, r2_n h1, r2_n h2, r2_n h1]
theorem M2_u2 : u2 (M2 mi a1 a2 X Y) a2 j y = M2 mi a1 a2 X (u1 Y j y) := by
  rw [u2_r2, M2_2]
  unfold M2
  rw [r2_r2]
theorem M2_id : M2 mi a1 a2 (mi a1) (mi a2) = mi := by unfold M2; rw [r2_self, r2_self]
end M2S
theorem snd_loop {A B : Nat → Int32} {l : Nat} {y : Int32} (hl : g.1 l = 3) (h6 : mr l 6 = a1) (h7 : mr l 7 = a2) (k1 : g.1 a1 = 20) (k2 : g.1 a2 = 20) (l1 : g.2.1 a1 = L) (l2 : g.2.1 a2 = L) (h12 : ¬ a1 = a2) (hS : S < L) (hL : L ≤ 60000) {x0 x1 x2 : Value} : ∀ p, p ≤ S → R d mX2_send 119 [.ref l, x0, x1, x2, .int y, .int (nI p)] [] g (M2 mi a1 a2 (shQ A p S) (shQ B p S)) ml mr = R d mX2_send 176 [.ref l, x0, x1, x2, .int y, .int (nI (cPos A y p))] [] g (M2 mi a1 a2 (shQ A (cPos A y p) S) (shQ B (cPos A y p) S)) ml mr := by
  intro p
  induction p with
  | zero =>
    intro hp
    rw [wX2_send_119]
    simp only [wX2_send_0, wX2_send_1, wX2_send_2, wX2_send_5, wX2_send_6, wX2_send_7, wX2_send_10, wX2_send_11, wX2_send_14, wX2_send_15, wX2_send_18, wX2_send_19, wX2_send_22, wX2_send_23, wX2_send_26, wX2_send_27, wX2_send_30, wX2_send_31, wX2_send_32, wX2_send_33, wX2_send_34, wX2_send_35, wX2_send_36, wX2_send_37, wX2_send_40, wX2_send_41, wX2_send_42, wX2_send_45, wX2_send_46, wX2_send_47, wX2_send_50, wX2_send_52, wX2_send_55, wX2_send_56, wX2_send_57, wX2_send_60, wX2_send_61, wX2_send_64, wX2_send_65, wX2_send_68, wX2_send_69, wX2_send_70, wX2_send_73, wX2_send_74, wX2_send_75, wX2_send_78, wX2_send_79, wX2_send_82, wX2_send_85, wX2_send_86, wX2_send_87, wX2_send_90, wX2_send_91, wX2_send_92, wX2_send_95, wX2_send_96, wX2_send_99, wX2_send_102, wX2_send_103, wX2_send_106, wX2_send_107, wX2_send_110, wX2_send_111i, wX2_send_111r, wX2_send_111n, wX2_send_113, wX2_send_114, wX2_send_117i, wX2_send_117r, wX2_send_117n, wX2_send_121, wX2_send_124, wX2_send_125, wX2_send_128, wX2_send_130, wX2_send_131, wX2_send_132, wX2_send_133, wX2_send_135, wX2_send_138, wX2_send_139, wX2_send_142, wX2_send_144, wX2_send_145, wX2_send_148, wX2_send_150, wX2_send_151, wX2_send_152, wX2_send_153, wX2_send_154, wX2_send_155, wX2_send_158, wX2_send_160, wX2_send_161, wX2_send_164, wX2_send_166, wX2_send_167, wX2_send_168, wX2_send_169, wX2_send_170i, wX2_send_170r, wX2_send_170n, wX2_send_173, wX2_send_177, wX2_send_180, wX2_send_182, wX2_send_184, wX2_send_185, wX2_send_186, wX2_send_189, wX2_send_191, wX2_send_192, wX2_send_195, wX2_send_196, wX2_send_199, wX2_send_200, wX2_send_201, wX2_send_202, wX2_send_203, wX2_send_204, wX2_send_205, wX2_send_206, wX2_send_207, wX2_send_209, wX2_send_210, wX2_send_211, wX2_send_212, wX2_send_215, wX2_send_216, wX2_send_217, wX2_send_219, wX2_send_220, wX2_send_221, wX2_send_222, wX2_send_223, wX2_send_224, wX2_send_227, wX2_send_228, wX2_send_229, wX2_send_232, Int32.le_refl, if_true, cPos]
  | succ p ih =>
    intro hp
    have c1 : ¬ nI (p + 1) ≤ nI 0 := by rw [nI_leI (by omega) (by omega)]; omega
    have b1 : p < L := by omega
    have b2 : p < 2147483648 := by omega
    have b3 : p + 1 < L := by omega
    have b4 : p + 1 < 2147483648 := by omega
    rw [wX2_send_119]
    by_cases hc : A p ≤ y
    · have hp' : cPos A y (p + 1) = p + 1 := by show (if _ then _ else _) = _; rw [if_pos hc]
      rw [hp']
      simp only [wX2_send_0, wX2_send_1, wX2_send_2, wX2_send_5, wX2_send_6, wX2_send_7, wX2_send_10, wX2_send_11, wX2_send_14, wX2_send_15, wX2_send_18, wX2_send_19, wX2_send_22, wX2_send_23, wX2_send_26, wX2_send_27, wX2_send_30, wX2_send_31, wX2_send_32, wX2_send_33, wX2_send_34, wX2_send_35, wX2_send_36, wX2_send_37, wX2_send_40, wX2_send_41, wX2_send_42, wX2_send_45, wX2_send_46, wX2_send_47, wX2_send_50, wX2_send_52, wX2_send_55, wX2_send_56, wX2_send_57, wX2_send_60, wX2_send_61, wX2_send_64, wX2_send_65, wX2_send_68, wX2_send_69, wX2_send_70, wX2_send_73, wX2_send_74, wX2_send_75, wX2_send_78, wX2_send_79, wX2_send_82, wX2_send_85, wX2_send_86, wX2_send_87, wX2_send_90, wX2_send_91, wX2_send_92, wX2_send_95, wX2_send_96, wX2_send_99, wX2_send_102, wX2_send_103, wX2_send_106, wX2_send_107, wX2_send_110, wX2_send_111i, wX2_send_111r, wX2_send_111n, wX2_send_113, wX2_send_114, wX2_send_117i, wX2_send_117r, wX2_send_117n, wX2_send_121, wX2_send_124, wX2_send_125, wX2_send_128, wX2_send_130, wX2_send_131, wX2_send_132, wX2_send_133, wX2_send_135, wX2_send_138, wX2_send_139, wX2_send_142, wX2_send_144, wX2_send_145, wX2_send_148, wX2_send_150, wX2_send_151, wX2_send_152, wX2_send_153, wX2_send_154, wX2_send_155, wX2_send_158, wX2_send_160, wX2_send_161, wX2_send_164, wX2_send_166, wX2_send_167, wX2_send_168, wX2_send_169, wX2_send_170i, wX2_send_170r, wX2_send_170n, wX2_send_173, wX2_send_177, wX2_send_180, wX2_send_182, wX2_send_184, wX2_send_185, wX2_send_186, wX2_send_189, wX2_send_191, wX2_send_192, wX2_send_195, wX2_send_196, wX2_send_199, wX2_send_200, wX2_send_201, wX2_send_202, wX2_send_203, wX2_send_204, wX2_send_205, wX2_send_206, wX2_send_207, wX2_send_209, wX2_send_210, wX2_send_211, wX2_send_212, wX2_send_215, wX2_send_216, wX2_send_217, wX2_send_219, wX2_send_220, wX2_send_221, wX2_send_222, wX2_send_223, wX2_send_224, wX2_send_227, wX2_send_228, wX2_send_229, wX2_send_232, c1, if_false, hl, h6, k1, l1, pk_sub (Nat.le_add_left 1 p), Nat.add_sub_cancel, b1, b2, M2_1 h12, shQ_at, hc, if_true]
    · have hp' : cPos A y (p + 1) = cPos A y p := by show (if _ then _ else _) = _; rw [if_neg hc]
      rw [hp']
      simp only [wX2_send_0, wX2_send_1, wX2_send_2, wX2_send_5, wX2_send_6, wX2_send_7, wX2_send_10, wX2_send_11, wX2_send_14, wX2_send_15, wX2_send_18, wX2_send_19, wX2_send_22, wX2_send_23, wX2_send_26, wX2_send_27, wX2_send_30, wX2_send_31, wX2_send_32, wX2_send_33, wX2_send_34, wX2_send_35, wX2_send_36, wX2_send_37, wX2_send_40, wX2_send_41, wX2_send_42, wX2_send_45, wX2_send_46, wX2_send_47, wX2_send_50, wX2_send_52, wX2_send_55, wX2_send_56, wX2_send_57, wX2_send_60, wX2_send_61, wX2_send_64, wX2_send_65, wX2_send_68, wX2_send_69, wX2_send_70, wX2_send_73, wX2_send_74, wX2_send_75, wX2_send_78, wX2_send_79, wX2_send_82, wX2_send_85, wX2_send_86, wX2_send_87, wX2_send_90, wX2_send_91, wX2_send_92, wX2_send_95, wX2_send_96, wX2_send_99, wX2_send_102, wX2_send_103, wX2_send_106, wX2_send_107, wX2_send_110, wX2_send_111i, wX2_send_111r, wX2_send_111n, wX2_send_113, wX2_send_114, wX2_send_117i, wX2_send_117r, wX2_send_117n, wX2_send_121, wX2_send_124, wX2_send_125, wX2_send_128, wX2_send_130, wX2_send_131, wX2_send_132, wX2_send_133, wX2_send_135, wX2_send_138, wX2_send_139, wX2_send_142, wX2_send_144, wX2_send_145, wX2_send_148, wX2_send_150, wX2_send_151, wX2_send_152, wX2_send_153, wX2_send_154, wX2_send_155, wX2_send_158, wX2_send_160, wX2_send_161, wX2_send_164, wX2_send_166, wX2_send_167, wX2_send_168, wX2_send_169, wX2_send_170i, wX2_send_170r, wX2_send_170n, wX2_send_173, wX2_send_177, wX2_send_180, wX2_send_182, wX2_send_184, wX2_send_185, wX2_send_186, wX2_send_189, wX2_send_191, wX2_send_192, wX2_send_195, wX2_send_196, wX2_send_199, wX2_send_200, wX2_send_201, wX2_send_202, wX2_send_203, wX2_send_204, wX2_send_205, wX2_send_206, wX2_send_207, wX2_send_209, wX2_send_210, wX2_send_211, wX2_send_212, wX2_send_215, wX2_send_216, wX2_send_217, wX2_send_219, wX2_send_220, wX2_send_221, wX2_send_222, wX2_send_223, wX2_send_224, wX2_send_227, wX2_send_228, wX2_send_229, wX2_send_232, c1, if_false, hl, h6, h7, k1, k2, l1, l2, pk_sub (Nat.le_add_left 1 p), Nat.add_sub_cancel, b1, b2, b3, b4, M2_1 h12, M2_2, M2_u1 h12, M2_u2, shQ_at, hc, shQ_step hp, pk_m1]
      exact ih (by omega)
theorem snd_fin {l x : Nat} {z0 z1 z3 y : Int32} (hl : g.1 l = 3) (hx : g.1 x = 2) (h6 : mr l 6 = a1) (h7 : mr l 7 = a2) (k1 : g.1 a1 = 20) (k2 : g.1 a2 = 20) (l1 : g.2.1 a1 = L) (l2 : g.2.1 a2 = L) (h12 : ¬ a1 = a2) (hS : S < L) (hL : L ≤ 60000) (hsz : mi l 5 = nI S) (hy : mi l 0 + mi l 1 = y) (x1 : ¬ x = a1) (x2 : ¬ x = a2) (w1 : ¬ l = a1) (w2 : ¬ l = a2) (e0 : mi x 0 = z0) (e1 : mi x 1 = z1) (e3 : mi x 3 = z3) {kk vv : Int32} {u4 u5 : Value} : R d mX2_send 102 [.ref l, .ref x, .int kk, .int vv, u4, u5] [] g mi ml mr = some (.inl none, g, u2 (M2 mi a1 a2 (insQ (mi a1) (cPos (mi a1) y S) S y) (insQ (mi a2) (cPos (mi a1) y S) S ((((z0 ||| z1 <<< (nI 1 &&& 31)) ||| kk <<< (nI 5 &&& 31)) ||| vv <<< (nI 9 &&& 31)) ||| (z3 + nI 1) <<< (nI 12 &&& 31)))) l 5 (nI (S + 1)), ml, mr) := by
  have hp := snd_loop (d := d) (mi := mi) (ml := ml) (A := mi a1) (B := mi a2) (y := y) (x0 := .ref x) (x1 := .int kk) (x2 := .int vv) hl h6 h7 k1 k2 l1 l2 h12 hS hL S (Nat.le_refl S)
  rw [shQ_top, shQ_top, M2_id] at hp
  have hle : cPos (mi a1) y S ≤ S := by
    have : ∀ n, cPos (mi a1) y n ≤ n := fun n => by
      induction n with
      | zero => exact Nat.le_refl 0
      | succ n ih => show (if mi a1 n ≤ y then n + 1 else cPos (mi a1) y n) ≤ n + 1; split <;> omega
    exact this S
  simp only [wX2_send_0, wX2_send_1, wX2_send_2, wX2_send_5, wX2_send_6, wX2_send_7, wX2_send_10, wX2_send_11, wX2_send_14, wX2_send_15, wX2_send_18, wX2_send_19, wX2_send_22, wX2_send_23, wX2_send_26, wX2_send_27, wX2_send_30, wX2_send_31, wX2_send_32, wX2_send_33, wX2_send_34, wX2_send_35, wX2_send_36, wX2_send_37, wX2_send_40, wX2_send_41, wX2_send_42, wX2_send_45, wX2_send_46, wX2_send_47, wX2_send_50, wX2_send_52, wX2_send_55, wX2_send_56, wX2_send_57, wX2_send_60, wX2_send_61, wX2_send_64, wX2_send_65, wX2_send_68, wX2_send_69, wX2_send_70, wX2_send_73, wX2_send_74, wX2_send_75, wX2_send_78, wX2_send_79, wX2_send_82, wX2_send_85, wX2_send_86, wX2_send_87, wX2_send_90, wX2_send_91, wX2_send_92, wX2_send_95, wX2_send_96, wX2_send_99, wX2_send_102, wX2_send_103, wX2_send_106, wX2_send_107, wX2_send_110, wX2_send_111i, wX2_send_111r, wX2_send_111n, wX2_send_113, wX2_send_114, wX2_send_117i, wX2_send_117r, wX2_send_117n, wX2_send_121, wX2_send_124, wX2_send_125, wX2_send_128, wX2_send_130, wX2_send_131, wX2_send_132, wX2_send_133, wX2_send_135, wX2_send_138, wX2_send_139, wX2_send_142, wX2_send_144, wX2_send_145, wX2_send_148, wX2_send_150, wX2_send_151, wX2_send_152, wX2_send_153, wX2_send_154, wX2_send_155, wX2_send_158, wX2_send_160, wX2_send_161, wX2_send_164, wX2_send_166, wX2_send_167, wX2_send_168, wX2_send_169, wX2_send_170i, wX2_send_170r, wX2_send_170n, wX2_send_173, wX2_send_176, wX2_send_177, wX2_send_180, wX2_send_182, wX2_send_184, wX2_send_185, wX2_send_186, wX2_send_189, wX2_send_191, wX2_send_192, wX2_send_195, wX2_send_196, wX2_send_199, wX2_send_200, wX2_send_201, wX2_send_202, wX2_send_203, wX2_send_204, wX2_send_205, wX2_send_206, wX2_send_207, wX2_send_209, wX2_send_210, wX2_send_211, wX2_send_212, wX2_send_215, wX2_send_216, wX2_send_217, wX2_send_219, wX2_send_220, wX2_send_221, wX2_send_222, wX2_send_223, wX2_send_224, wX2_send_227, wX2_send_228, wX2_send_229, wX2_send_232, hl, hy, hsz]
  rw [hp]
  generalize cPos (mi a1) y S = p at hle ⊢
  have b3 : p < L := by omega
  have b4 : p < 2147483648 := by omega
  simp only [wX2_send_0, wX2_send_1, wX2_send_2, wX2_send_5, wX2_send_6, wX2_send_7, wX2_send_10, wX2_send_11, wX2_send_14, wX2_send_15, wX2_send_18, wX2_send_19, wX2_send_22, wX2_send_23, wX2_send_26, wX2_send_27, wX2_send_30, wX2_send_31, wX2_send_32, wX2_send_33, wX2_send_34, wX2_send_35, wX2_send_36, wX2_send_37, wX2_send_40, wX2_send_41, wX2_send_42, wX2_send_45, wX2_send_46, wX2_send_47, wX2_send_50, wX2_send_52, wX2_send_55, wX2_send_56, wX2_send_57, wX2_send_60, wX2_send_61, wX2_send_64, wX2_send_65, wX2_send_68, wX2_send_69, wX2_send_70, wX2_send_73, wX2_send_74, wX2_send_75, wX2_send_78, wX2_send_79, wX2_send_82, wX2_send_85, wX2_send_86, wX2_send_87, wX2_send_90, wX2_send_91, wX2_send_92, wX2_send_95, wX2_send_96, wX2_send_99, wX2_send_102, wX2_send_103, wX2_send_106, wX2_send_107, wX2_send_110, wX2_send_111i, wX2_send_111r, wX2_send_111n, wX2_send_113, wX2_send_114, wX2_send_117i, wX2_send_117r, wX2_send_117n, wX2_send_121, wX2_send_124, wX2_send_125, wX2_send_128, wX2_send_130, wX2_send_131, wX2_send_132, wX2_send_133, wX2_send_135, wX2_send_138, wX2_send_139, wX2_send_142, wX2_send_144, wX2_send_145, wX2_send_148, wX2_send_150, wX2_send_151, wX2_send_152, wX2_send_153, wX2_send_154, wX2_send_155, wX2_send_158, wX2_send_160, wX2_send_161, wX2_send_164, wX2_send_166, wX2_send_167, wX2_send_168, wX2_send_169, wX2_send_170i, wX2_send_170r, wX2_send_170n, wX2_send_173, wX2_send_176, wX2_send_177, wX2_send_180, wX2_send_182, wX2_send_184, wX2_send_185, wX2_send_186, wX2_send_189, wX2_send_191, wX2_send_192, wX2_send_195, wX2_send_196, wX2_send_199, wX2_send_200, wX2_send_201, wX2_send_202, wX2_send_203, wX2_send_204, wX2_send_205, wX2_send_206, wX2_send_207, wX2_send_209, wX2_send_210, wX2_send_211, wX2_send_212, wX2_send_215, wX2_send_216, wX2_send_217, wX2_send_219, wX2_send_220, wX2_send_221, wX2_send_222, wX2_send_223, wX2_send_224, wX2_send_227, wX2_send_228, wX2_send_229, wX2_send_232, hl, hx, h6, h7, k1, k2, l1, l2, b3, b4, M2_1 h12, M2_2, M2_u1 h12, M2_u2, shQ_end, M2_o x1 x2, M2_o w1 w2, e0, e1, e3, hsz, nI_add]
end CSND
