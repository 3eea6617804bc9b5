/-! the class: a message is sent -/
section CSN2
variable {s off N n a1 a2 b1 b2 L L' e c w k v j f a d o z x S t D p : Nat} {r r' : Nat → Int32} {q : Nat → Int64} {g g' : Gh} {mi mi' : MI} {ml ml' : ML} {mr mr' : MR} {m : Ms} {y : Int32}
theorem newG_o {kd n' c' s' : Nat} (h : ¬ a = g.2.2.1) : (newG g kd n' c' s').1 a = g.1 a ∧ (newG g kd n' c' s').2.1 a = g.2.1 a := ⟨u1_n h, u1_n h⟩
theorem newG_k {kd n' c' s' : Nat} : (newG g kd n' c' s').1 g.2.2.1 = kd := u1_s
theorem newG_l {kd n' c' s' : Nat} : (newG g kd n' c' s').2.1 g.2.2.1 = n' := u1_s
theorem z2_o {α : Type} {F : Nat → Nat → α} {b : α} (h : ¬ x = a) : z2 F a b x = F x := by
  funext i
  unfold z2
  rw [if_neg h]
theorem z2_f {α : Type} {F : Nat → Nat → α} {b : α} : z2 F a b a = fun _ => b := by
  funext i
  unfold z2
  rw [if_pos rfl]
theorem c_copyOf {l : Nat} (hx : g.1 x = 20) (hl : g.2.1 x = l) (hlj : l < j) (hj : j ≤ 60000) (hc : 1 ≤ g.2.2.2.1) (hs : j ≤ g.2.2.2.2) (hxn : x < g.2.2.1) : callT (d + 2) mJ7_copyOf_59c91 [.ref x, .int (nI j)] (g, mi, ml, mr) = some (.inl (some (.ref g.2.2.1)), newG g 20 j (g.2.2.2.1 - 1) (g.2.2.2.2 - j), r2 (z2 mi g.2.2.1 0) g.2.2.1 (cpyI (mi x) (fun _ => 0) 0 0 l), z2 ml g.2.2.1 0, z2 mr g.2.2.1 0) := by
  have hne : ¬ x = g.2.2.1 := by omega
  obtain ⟨o1, o2⟩ := newG_o (g := g) (kd := 20) (n' := j) (c' := g.2.2.2.1 - 1) (s' := g.2.2.2.2 - j) hne
  have o3 := newG_k (g := g) (kd := 20) (n' := j) (c' := g.2.2.2.1 - 1) (s' := g.2.2.2.2 - j)
  have o4 := newG_l (g := g) (kd := 20) (n' := j) (c' := g.2.2.2.1 - 1) (s' := g.2.2.2.2 - j)
  have n1 : ¬ nI j = nI l := fun h9 => by have := (nI_eq (by omega) (by omega)).mp h9; omega
  have n2 : ¬ nI j < nI l := fun h9 => by have := (nI_ltI (by omega) (by omega)).mp h9; omega
  have k20 : 20 ≤ 20 ∧ 20 ≤ 25 := by decide
  have hz : ¬ g.2.2.1 = 0 := by omega
  have p1 : 0 + l ≤ l := by omega
  have p2 : 0 + l ≤ j := by omega
  have p3 : l < 2147483648 := by omega
  have hk : 20 ≤ g.1 x ∧ g.1 x ≤ 25 := by rw [hx]; exact k20
  rw [eJ7_copyOf_59c91]
  simp only [wJ7_copyOf_59c91_0, wJ7_copyOf_59c91_1, wJ7_copyOf_59c91_2, wJ7_copyOf_59c91_3, wJ7_copyOf_59c91_6, wJ7_copyOf_59c91_13, wJ7_copyOf_59c91_14, wJ7_copyOf_59c91_15, wJ7_copyOf_59c91_17i, wJ7_copyOf_59c91_17r, wJ7_copyOf_59c91_17n, wJ7_copyOf_59c91_18, wJ7_copyOf_59c91_19, wJ7_copyOf_59c91_20, wJ7_copyOf_59c91_21, wJ7_copyOf_59c91_22, wJ7_copyOf_59c91_23, wJ7_copyOf_59c91_24, wJ7_copyOf_59c91_25, wJ7_copyOf_59c91_28, wJ7_copyOf_59c91_31, wJ7_copyOf_59c91_32, hk, hl, n1, if_false, hj, hc, hs, o1, o2, o3, o4, hx, k20, cs_0, cs_i, cs_r, n2, p1, p2, p3, Nat.reduceLT, and_self, z2_o hne, z2_f, ne_eq, hz, not_false_iff]
/-- the messages get more room -/
theorem c_grow {l : Nat} (hl : g.1 l = 3) (h6 : mr l 6 = a1) (h7 : mr l 7 = a2) (k1 : g.1 a1 = 20) (k2 : g.1 a2 = 20) (l1 : g.2.1 a1 = L) (l2 : g.2.1 a2 = L) (hL1 : 1 ≤ L) (hL : 2 * L ≤ 60000) (hsz : mi l 5 = nI L) (hln : l < g.2.2.1) (h1n : a1 < g.2.2.1) (h2n : a2 < g.2.2.1) (hc : 2 ≤ g.2.2.2.1) (hs : 4 * L ≤ g.2.2.2.2) {x0 x1 x2 x3 x4 : Value} : ∃ g2 mi2 ml2 mr2, R (d + 2) mX2_send 68 [.ref l, x0, x1, x2, x3, x4] [] g mi ml mr = R (d + 2) mX2_send 102 [.ref l, x0, x1, x2, x3, x4] [] g2 mi2 ml2 mr2 ∧ (∀ a, a < g.2.2.1 → g2.1 a = g.1 a ∧ g2.2.1 a = g.2.1 a ∧ mi2 a = mi a ∧ ml2 a = ml a ∧ ∀ f, ¬ (a = l ∧ (f = 6 ∨ f = 7)) → mr2 a f = mr a f) ∧ (mr2 l 6 = g.2.2.1 ∧ mr2 l 7 = g.2.2.1 + 1 ∧ g2.1 g.2.2.1 = 20 ∧ g2.1 (g.2.2.1 + 1) = 20 ∧ g2.2.1 g.2.2.1 = 2 * L ∧ g2.2.1 (g.2.2.1 + 1) = 2 * L) ∧ (g2.2.2.1 = g.2.2.1 + 2 ∧ g2.2.2.2.1 + 2 = g.2.2.2.1 ∧ g2.2.2.2.2 + 4 * L = g.2.2.2.2) ∧ (∀ i, i < L → mi2 g.2.2.1 i = mi a1 i) ∧ ∀ i, i < L → mi2 (g.2.2.1 + 1) i = mi a2 i := by
  have hm : nI 2 * nI L = nI (2 * L) := pk_mul ..
  have e1 := c_copyOf (d := d) (mi := mi) (ml := ml) (mr := mr) (x := a1) (j := 2 * L) k1 l1 (by omega) hL (by omega) (by omega) h1n
  generalize hg1 : newG g 20 (2 * L) (g.2.2.2.1 - 1) (g.2.2.2.2 - 2 * L) = g1 at e1
  have nx1 : g1.2.2.1 = g.2.2.1 + 1 := by rw [← hg1]; rfl
  have cl1 : g1.2.2.2.1 = g.2.2.2.1 - 1 := by rw [← hg1]; rfl
  have sl1 : g1.2.2.2.2 = g.2.2.2.2 - 2 * L := by rw [← hg1]; rfl
  have o1 : ∀ a, ¬ a = g.2.2.1 → g1.1 a = g.1 a ∧ g1.2.1 a = g.2.1 a := fun a ha => by rw [← hg1]; exact newG_o ha
  have s1 : g1.1 g.2.2.1 = 20 ∧ g1.2.1 g.2.2.1 = 2 * L := by rw [← hg1]; exact ⟨newG_k, newG_l⟩
  clear hg1
  generalize hm1 : r2 (z2 mi g.2.2.1 0) g.2.2.1 (cpyI (mi a1) (fun _ => 0) 0 0 L) = m1 at e1
  have mo1 : ∀ a, ¬ a = g.2.2.1 → m1 a = mi a := fun a ha => by rw [← hm1, r2_n ha, z2_o ha]
  have ms1 : ∀ i, i < L → m1 g.2.2.1 i = mi a1 i := fun i hi => by
    rw [← hm1, r2_s]
    unfold cpyI
    rw [if_pos (by omega)]
    congr 1; omega
  clear hm1
  have q1 : ∀ a, ¬ a = g.2.2.1 → z2 mr g.2.2.1 0 a = mr a := fun a ha => z2_o ha
  have w1 : ∀ a, ¬ a = g.2.2.1 → z2 ml g.2.2.1 0 a = ml a := fun a ha => z2_o ha
  generalize z2 mr g.2.2.1 0 = r1 at e1 q1
  generalize z2 ml g.2.2.1 0 = w at e1 w1
  have n2 : ¬ a2 = g.2.2.1 := by omega
  have nl : ¬ l = g.2.2.1 := by omega
  have e2 := c_copyOf (g := g1) (d := d) (mi := m1) (ml := w) (mr := u2 r1 l 6 g.2.2.1) (x := a2) (j := 2 * L) ((o1 a2 n2).1.trans k2) ((o1 a2 n2).2.trans l2) (by omega) hL (by omega) (by omega) (by omega)
  rw [mo1 a2 n2] at e2
  generalize hg2 : newG g1 20 (2 * L) (g1.2.2.2.1 - 1) (g1.2.2.2.2 - 2 * L) = g2 at e2
  have nx2 : g2.2.2.1 = g.2.2.1 + 2 := by rw [← hg2]; show g1.2.2.1 + 1 = _; omega
  have cl2 : g2.2.2.2.1 = g.2.2.2.1 - 1 - 1 := by rw [← hg2]; show g1.2.2.2.1 - 1 = _; rw [cl1]
  have sl2 : g2.2.2.2.2 = g.2.2.2.2 - 2 * L - 2 * L := by rw [← hg2]; show g1.2.2.2.2 - 2 * L = _; rw [sl1]
  have o2 : ∀ a, ¬ a = g1.2.2.1 → g2.1 a = g1.1 a ∧ g2.2.1 a = g1.2.1 a := fun a ha => by rw [← hg2]; exact newG_o ha
  have s2 : g2.1 g1.2.2.1 = 20 ∧ g2.2.1 g1.2.2.1 = 2 * L := by rw [← hg2]; exact ⟨newG_k, newG_l⟩
  clear hg2
  generalize hm2 : r2 (z2 m1 g1.2.2.1 0) g1.2.2.1 (cpyI (mi a2) (fun _ => 0) 0 0 L) = m2 at e2
  have mo2 : ∀ a, ¬ a = g1.2.2.1 → m2 a = m1 a := fun a ha => by rw [← hm2, r2_n ha, z2_o ha]
  have ms2 : ∀ i, i < L → m2 g1.2.2.1 i = mi a2 i := fun i hi => by
    rw [← hm2, r2_s]
    unfold cpyI
    rw [if_pos (by omega)]
    congr 1; omega
  clear hm2
  have q2 : ∀ a, ¬ a = g1.2.2.1 → z2 (u2 r1 l 6 g.2.2.1) g1.2.2.1 0 a = u2 r1 l 6 g.2.2.1 a := fun a ha => z2_o ha
  have w2 : ∀ a, ¬ a = g1.2.2.1 → z2 w g1.2.2.1 0 a = w a := fun a ha => z2_o ha
  generalize z2 (u2 r1 l 6 g.2.2.1) g1.2.2.1 0 = r3 at e2 q2
  generalize z2 w g1.2.2.1 0 = w3 at e2 w2
  rw [nx1] at e2 o2 s2 mo2 ms2 q2 w2
  have hl1 : g1.1 l = 3 := (o1 l nl).1.trans hl
  have hl2 : g2.1 l = 3 := (o2 l (by omega)).1.trans hl1
  have sz1 : m1 l 5 = nI L := by rw [mo1 l nl]; exact hsz
  have r17 : u2 r1 l 6 g.2.2.1 l 7 = a2 := by rw [u2_oth (fun h9 => absurd h9.2 (by decide)), q1 l nl]; exact h7
  have hz : ¬ g.2.2.1 = 0 := by omega
  have hz2 : ¬ g.2.2.1 + 1 = 0 := by omega
  refine ⟨g2, m2, w3, u2 r3 l 7 (g.2.2.1 + 1), ?_, fun a ha => ⟨?_, ?_, ?_, ?_, fun f hf => ?_⟩, ⟨?_, ?_, ?_, s2.1, ?_, s2.2⟩, ⟨nx2, by omega, by omega⟩, fun i hi => ?_, ms2⟩
  · simp only [wX2_send_0, wX2_send_1, wX2_send_2, wX2_send_5, wX2_send_6, wX2_send_7, wX2_send_10, wX2_send_11, wX2_send_14, wX2_send_15, wX2_send_18, wX2_send_19, wX2_send_22, wX2_send_23, wX2_send_26, wX2_send_27, wX2_send_30, wX2_send_31, wX2_send_32, wX2_send_33, wX2_send_34, wX2_send_35, wX2_send_36, wX2_send_37, wX2_send_40, wX2_send_41, wX2_send_42, wX2_send_45, wX2_send_46, wX2_send_47, wX2_send_50, wX2_send_52, wX2_send_55, wX2_send_56, wX2_send_57, wX2_send_60, wX2_send_61, wX2_send_64, wX2_send_65, wX2_send_68, wX2_send_69, wX2_send_70, wX2_send_73, wX2_send_74, wX2_send_75, wX2_send_78, wX2_send_79, wX2_send_82, wX2_send_85, wX2_send_86, wX2_send_87, wX2_send_90, wX2_send_91, wX2_send_92, wX2_send_95, wX2_send_96, wX2_send_99, wX2_send_103, wX2_send_106, wX2_send_107, wX2_send_110, wX2_send_111i, wX2_send_111r, wX2_send_111n, wX2_send_113, wX2_send_114, wX2_send_117i, wX2_send_117r, wX2_send_117n, wX2_send_121, wX2_send_124, wX2_send_125, wX2_send_128, wX2_send_130, wX2_send_131, wX2_send_132, wX2_send_133, wX2_send_135, wX2_send_138, wX2_send_139, wX2_send_142, wX2_send_144, wX2_send_145, wX2_send_148, wX2_send_150, wX2_send_151, wX2_send_152, wX2_send_153, wX2_send_154, wX2_send_155, wX2_send_158, wX2_send_160, wX2_send_161, wX2_send_164, wX2_send_166, wX2_send_167, wX2_send_168, wX2_send_169, wX2_send_170i, wX2_send_170r, wX2_send_170n, wX2_send_173, wX2_send_176, wX2_send_177, wX2_send_180, wX2_send_182, wX2_send_184, wX2_send_185, wX2_send_186, wX2_send_189, wX2_send_191, wX2_send_192, wX2_send_195, wX2_send_196, wX2_send_199, wX2_send_200, wX2_send_201, wX2_send_202, wX2_send_203, wX2_send_204, wX2_send_205, wX2_send_206, wX2_send_207, wX2_send_209, wX2_send_210, wX2_send_211, wX2_send_212, wX2_send_215, wX2_send_216, wX2_send_217, wX2_send_219, wX2_send_220, wX2_send_221, wX2_send_222, wX2_send_223, wX2_send_224, wX2_send_227, wX2_send_228, wX2_send_229, wX2_send_232, hl, h6, hsz, hm, cs_0, cs_i, cs_r, e1, aR_1, hl1, ne_eq, hz, not_false_iff, r17, sz1, e2, hl2, hz2]
  · rw [(o2 a (by omega)).1, (o1 a (by omega)).1]
  · rw [(o2 a (by omega)).2, (o1 a (by omega)).2]
  · rw [mo2 a (by omega), mo1 a (by omega)]
  · rw [w2 a (by omega), w1 a (by omega)]
  · rw [u2_oth (fun h9 => hf ⟨h9.1, Or.inr h9.2⟩), q2 a (by omega), u2_oth (fun h9 => hf ⟨h9.1, Or.inl h9.2⟩), q1 a (by omega)]
  · rw [u2_oth (fun h9 => absurd h9.2 (by decide)), q2 l (by omega), u2_at]
  · exact u2_at
  · rw [(o2 g.2.2.1 (by omega)).1]; exact s1.1
  · rw [(o2 g.2.2.1 (by omega)).2]; exact s1.2
  · rw [mo2 g.2.2.1 (by omega)]; exact ms1 i hi
theorem no45 : ∀ j, j < 480 → ¬ j = 11 → ¬ (lA j = 4 ∧ lF j = 5) := by decide +kernel
theorem mPos_le {b : Int64} : ∀ n, mPos q b n ≤ n
  | 0 => Nat.le_refl 0
  | n + 1 => by
    show (if q n / lN 262144 ≤ b then n + 1 else mPos q b n) ≤ n + 1
    have := mPos_le (b := b) n
    split <;> omega
/-- a message more, on both sides -/
theorem CS.ins (h : CS s off N n a1 a2 L r q g mi mr) (hlt : off + n < L) (hm : okM m) (hz : z ≤ 40) (hk : m.2.2.2.1 = 0 → z = m.2.2.2.2.2 + 1) (hp : p ≤ n) : CS s off N (n + 1) a1 a2 L (inc r 11) (insQ q p n (enc m)) g (u2 (M2 mi a1 a2 (insQ (mi a1) (off + p) (off + n) (nI m.1)) (insQ (mi a2) (off + p) (off + n) (nI (ctN m z)))) (s + 4) 5 (nI (off + n + 1))) mr := by
  obtain ⟨h1, h2, ⟨h3, h5, h6⟩, ⟨h7, h8, h9, h9'⟩, h10, h11⟩ := h
  have h12 : ¬ a1 = a2 := h2.2.2.1.2.2.1
  have hin : ∀ {j}, ¬ j = 11 → inc r 11 j = r j := fun hj => u1_n hj
  have ho := fun {a} => h2.out (a := a)
  have ho4 := ho (a := s + 4) (by omega) (by omega) (by omega) (by omega)
  have hea : ∀ {e c f}, e < 2 → c < 12 → u2 (M2 mi a1 a2 (insQ (mi a1) (off + p) (off + n) (nI m.1)) (insQ (mi a2) (off + p) (off + n) (nI (ctN m z)))) (s + 4) 5 (nI (off + n + 1)) (eA s e c) f = mi (eA s e c) f := fun {e c f} he hc => by
    have hoe := ho (a := eA s e c) (by unfold eA; omega) (by unfold eA; omega) (by unfold eA; omega) (by unfold eA; omega)
    rw [u2_row (by unfold eA; omega), M2_o (fun h => hoe.1 h.symm) (fun h => hoe.2 h.symm)]
  have m1 : u2 (M2 mi a1 a2 (insQ (mi a1) (off + p) (off + n) (nI m.1)) (insQ (mi a2) (off + p) (off + n) (nI (ctN m z)))) (s + 4) 5 (nI (off + n + 1)) a1 = insQ (mi a1) (off + p) (off + n) (nI m.1) := by rw [u2_row ho4.1, M2_1 h12]
  have m2 : u2 (M2 mi a1 a2 (insQ (mi a1) (off + p) (off + n) (nI m.1)) (insQ (mi a2) (off + p) (off + n) (nI (ctN m z)))) (s + 4) 5 (nI (off + n + 1)) a2 = insQ (mi a2) (off + p) (off + n) (nI (ctN m z)) := by rw [u2_row ho4.2, M2_2]
  refine ⟨h1, h2, ⟨?_, fun e' c' he' hc' => ?_, fun e' c' he' hc' => ?_⟩, ⟨?_, ?_, by omega, h9'⟩, fun i hi => ?_, fun i hi => ?_⟩
  · refine CV.skip ?_ (fun j hk h9 => no45 j hk.1 hk.2.1 ⟨by omega, h9.2.symm⟩)
    refine CV.mem (mi := mi) (h3.row (fun j hk => hin hk.2.1)) (fun b f hb hb2 hb6 hb7 => ?_)
    have hob := ho (a := b) hb hb2 hb6 hb7
    rw [M2_o (fun h => hob.1 h.symm) (fun h => hob.2 h.symm)]
  · rw [hea he' hc', hin (by have := eI_ge (e := e') (c := c') (w := 4); omega), hin (by have := eI_ge (e := e') (c := c') (w := 8); omega)]
    exact h5 e' c' he' hc'
  · rw [hea he' hc', hea he' hc']
    exact h6 e' c' he' hc'
  · unfold inc; rw [u1_s, h7, nI_add]
  · rw [u2_at]; congr 1
  · rw [m1, m2]
    rcases Nat.lt_trichotomy i p with g1 | g1 | g1
    · rw [insQ_lt g1, insQ_lt (show off + i < off + p by omega), insQ_lt (show off + i < off + p by omega)]; exact h10 i (by omega)
    · subst g1
      rw [insQ_eq, insQ_eq, insQ_eq]
      exact ⟨m, z, rfl, hm, rfl, rfl, hz, hk⟩
    · rw [insQ_gt g1 (by omega), insQ_gt (show off + p < off + i by omega) (by omega), insQ_gt (show off + p < off + i by omega) (by omega), show off + i - 1 = off + (i - 1) by omega]
      exact h10 (i - 1) (by omega)
  · rw [m1, insQ_lt (show i < off + p by omega), hin (by decide)]; exact h11 i hi
theorem CS.vv (h : CS s off N n a1 a2 L r q g mi mr) (hj : okJ N j) : mi (s + lA j) (lF j) = r j := h.2.2.1.1 j hj
theorem CS.ev (h : CS s off N n a1 a2 L r q g mi mr) (he : e < 2) (hc : c < 12) (hw : w < 8) (hf : fw w = f) : mi (eA s e c) f = r (eI e c w) := by
  have := h.vv (okJ_e (N := N) he hc hw)
  rw [(loc_e he hc (by omega)).1, (loc_e (s := s) he hc (by omega)).2, hf] at this
  exact this
theorem CS.cv_ (h : CS s off N n a1 a2 L r q g mi mr) {i : Nat} (hi : i < N) (hN : N ≤ 40) (hw : w < 6) (hf : gw w = f) : mi (cA s i) f = r (cI i w) := by
  have := h.vv (okJ_c hi hN hw)
  rw [(loc_c hw).1, (loc_c (s := s) (n := i) hw).2, hf] at this
  exact this
theorem CS.lv (h : CS s off N n a1 a2 L r q g mi mr) (hj : j < 24) (h11 : ¬ j = 11) (ha : s + lA j = a) (hf : lF j = f) : mi a f = r j := by
  have := h.vv (okJ_l (N := N) hj h11)
  rw [ha, hf] at this
  exact this
theorem CS.kE (h : CS s off N n a1 a2 L r q g mi mr) (he : e < 2) (hc : c < 12) : g.1 (eA s e c) = 2 := (h.1.2.2.2.1 (e * 12 + c) (by omega)).1
theorem oI_1 (ho : o ≤ 40) : oI o + nI 1 = nI o := by
  unfold oI
  by_cases h : o = 0
  · rw [if_pos h, h]; rfl
  · rw [if_neg h, nI_add]; congr 1; omega
/-- a message is sent, or lost -/
theorem c_send (h : CS s off N n a1 a2 L r q g mi mr) (hR : RmC L g) (he : e < 2) (hc : c < 12) (hk : k < 14) (hv : v < 8) (h2 : r 2 = nI t) (h1 : r 1 = nI D) (ht : t + D < 1000000) (ho : r (eI e c 1) = oI o) (ho2 : o ≤ 40) (h0 : k = 0 → 1 ≤ o ∧ v < 2) (hn : n + 1 ≤ 12500) : CRs s off N a1 a2 L g mi ml mr (callT (d + 3) mX2_send [.ref (s + 4), .ref (eA s e c), .int (nI k), .int (nI v)] (g, mi, ml, mr)) none (pSend r q e c k v) := by
  obtain ⟨⟨-, -, ⟨c12, c13, c14, c15⟩, -, -⟩, ⟨⟨i6, i7⟩, ⟨i1, i2, i3, i4⟩, ⟨i8, i9, i10, i11, i12⟩, i13⟩, ⟨-, -, d5⟩, ⟨d6, d7, d8, d9⟩, d10, d11⟩ := id h
  have hkE := h.kE he hc
  have x0 := (d5 e c he hc).1
  have x1 := (d5 e c he hc).2
  have v2 : mi (s + 4) 2 = r 6 := h.lv (j := 6) (by decide) (by decide) rfl rfl
  have vl : mi (s + 5) e = r (3 + e) := by
    have : e = 0 ∨ e = 1 := by omega
    rcases this with rfl | rfl
    · exact h.lv (j := 3) (by decide) (by decide) rfl rfl
    · exact h.lv (j := 4) (by decide) (by decide) rfl rfl
  have la3 : s + lA (3 + e) = s + 5 ∧ lF (3 + e) = e := by
    have : e = 0 ∨ e = 1 := by omega
    rcases this with rfl | rfl <;> exact ⟨rfl, rfl⟩
  have h' : CS s off N n a1 a2 L (inc r 6) q g (u2 mi (s + 4) 2 (r 6 + nI 1)) mr := h.lo (j := 6) (z := r 6 + nI 1) (by decide) (by decide) (fun h9 => absurd h9 (by decide)) rfl rfl
  have T' : Tr s a1 a2 L g mi ml mr a1 a2 L g (u2 mi (s + 4) 2 (r 6 + nI 1)) ml mr := Tr.rf.up (by omega) (by omega)
  have b1 : e < 2147483648 := by omega
  have y0 : u2 mi (s + 4) 2 (r 6 + nI 1) (eA s e c) 0 = nI e := by rw [u2_row (by unfold eA; omega)]; exact x0
  have yl : u2 mi (s + 4) 2 (r 6 + nI 1) (s + 5) e = r (3 + e) := by rw [u2_row (by omega)]; exact vl
  rw [eX2_send]
  unfold pSend mSends
  by_cases hl : nI 0 < r (3 + e)
  · have hl' : ¬ r (3 + e) ≤ nI 0 := Int32.not_le.mpr hl
    have v3 : u2 (u2 mi (s + 4) 2 (r 6 + nI 1)) (s + 5) e (r (3 + e) - nI 1) (s + 4) 3 = r 7 := by
      rw [u2_row (by omega), u2_oth (fun h9 => absurd h9.2 (by decide))]
      exact h.lv (j := 7) (by decide) (by decide) rfl rfl
    rw [if_pos hl]
    simp only [wX2_send_0, wX2_send_1, wX2_send_2, wX2_send_5, wX2_send_6, wX2_send_7, wX2_send_10, wX2_send_11, wX2_send_14, wX2_send_15, wX2_send_18, wX2_send_19, wX2_send_22, wX2_send_23, wX2_send_26, wX2_send_27, wX2_send_30, wX2_send_31, wX2_send_32, wX2_send_33, wX2_send_34, wX2_send_35, wX2_send_36, wX2_send_37, wX2_send_40, wX2_send_41, wX2_send_42, wX2_send_45, wX2_send_46, wX2_send_47, wX2_send_50, wX2_send_52, wX2_send_55, wX2_send_56, wX2_send_57, wX2_send_60, wX2_send_61, wX2_send_64, wX2_send_65, wX2_send_68, wX2_send_69, wX2_send_70, wX2_send_73, wX2_send_74, wX2_send_75, wX2_send_78, wX2_send_79, wX2_send_82, wX2_send_85, wX2_send_86, wX2_send_87, wX2_send_90, wX2_send_91, wX2_send_92, wX2_send_95, wX2_send_96, wX2_send_99, wX2_send_102, wX2_send_103, wX2_send_106, wX2_send_107, wX2_send_110, wX2_send_111i, wX2_send_111r, wX2_send_111n, wX2_send_113, wX2_send_114, wX2_send_117i, wX2_send_117r, wX2_send_117n, wX2_send_121, wX2_send_124, wX2_send_125, wX2_send_128, wX2_send_130, wX2_send_131, wX2_send_132, wX2_send_133, wX2_send_135, wX2_send_138, wX2_send_139, wX2_send_142, wX2_send_144, wX2_send_145, wX2_send_148, wX2_send_150, wX2_send_151, wX2_send_152, wX2_send_153, wX2_send_154, wX2_send_155, wX2_send_158, wX2_send_160, wX2_send_161, wX2_send_164, wX2_send_166, wX2_send_167, wX2_send_168, wX2_send_169, wX2_send_170i, wX2_send_170r, wX2_send_170n, wX2_send_173, wX2_send_176, wX2_send_177, wX2_send_180, wX2_send_182, wX2_send_184, wX2_send_185, wX2_send_186, wX2_send_189, wX2_send_191, wX2_send_192, wX2_send_195, wX2_send_196, wX2_send_199, wX2_send_200, wX2_send_201, wX2_send_202, wX2_send_203, wX2_send_204, wX2_send_205, wX2_send_206, wX2_send_207, wX2_send_209, wX2_send_210, wX2_send_211, wX2_send_212, wX2_send_215, wX2_send_216, wX2_send_217, wX2_send_219, wX2_send_220, wX2_send_221, wX2_send_222, wX2_send_223, wX2_send_224, wX2_send_227, wX2_send_228, wX2_send_229, wX2_send_232, c12, c13, c14, c15, v2, hkE, y0, yl, he, b1, hl', if_false, v3]
    have e1 : u1 (inc r 6) (3 + e) (r (3 + e) - nI 1) = dec (inc r 6) (3 + e) := by unfold dec inc; rw [u1_n (show ¬ 3 + e = 6 by omega)]
    have h2' := h'.lo (j := 3 + e) (z := r (3 + e) - nI 1) (by omega) (by omega) (fun h9 => by omega) la3.1 la3.2
    rw [e1] at h2'
    have e2 : dec (inc r 6) (3 + e) 7 = r 7 := by unfold dec inc; rw [u1_n (by omega), u1_n (by decide)]
    have h3' := h2'.lo (j := 7) (z := r 7 + nI 1) (a := s + 4) (f := 3) (by decide) (by decide) (fun h9 => absurd h9 (by decide)) rfl rfl
    have e3 : u1 (dec (inc r 6) (3 + e)) 7 (r 7 + nI 1) = inc (dec (inc r 6) (3 + e)) 7 := by show _ = u1 _ 7 (dec (inc r 6) (3 + e) 7 + nI 1); rw [e2]
    rw [e3] at h3'
    exact ⟨n, a1, a2, L, g, _, ml, mr, rfl, h3', (T'.up (by omega) (by omega)).up (by omega) (by omega)⟩
  · have hl' : r (3 + e) ≤ nI 0 := Int32.not_lt.mp hl
    rw [if_neg hl]
    have hnM : nM r = n := by unfold nM; rw [d6]; exact clampN (by omega)
    have harr : (r 2 + r 1).toInt64 = lN (t + D) := by rw [h2, h1, nI_add, nI_l (by omega)]
    have hx : ∃ xx, xx < 40 ∧ (k = 0 → r (eI e c 1) = nI xx ∧ o = xx + 1) ∧ (¬ k = 0 → xx = 0) := by
      by_cases hk0 : k = 0
      · obtain ⟨g1, g2⟩ := h0 hk0
        refine ⟨o - 1, by omega, fun _ => ⟨?_, by omega⟩, fun h9 => absurd hk0 h9⟩
        rw [ho]; unfold oI; rw [if_neg (by omega)]
      · exact ⟨0, by decide, fun h9 => absurd h9 hk0, fun _ => rfl⟩
    obtain ⟨xx, hx1, hx2, hx3⟩ := hx
    have hmm : mMsg r e c k v = enc (t + D, e, c, k, v, xx) := mMsg_enc h2 h1 (by omega) (fun h9 => (hx2 h9).1) hx1 hx3
    have hok : okM (t + D, e, c, k, v, xx) := ⟨by show t + D < 1000000; omega, he, hc, hk, hv, hx1, fun h9 => (h0 h9).2⟩
    rw [hnM, harr, hmm]
    have s32 : nI (off + n) < nI 32768 := nI_lt (by omega) (by omega)
    have z5 : u2 mi (s + 4) 2 (r 6 + nI 1) (s + 4) 5 = nI (off + n) := by rw [u2_oth (fun h9 => absurd h9.2 (by decide))]; exact d7
    have k20 : 20 ≤ g.1 a1 ∧ g.1 a1 ≤ 25 := by rw [i1]; decide
    simp only [wX2_send_0, wX2_send_1, wX2_send_2, wX2_send_5, wX2_send_6, wX2_send_7, wX2_send_10, wX2_send_11, wX2_send_14, wX2_send_15, wX2_send_18, wX2_send_19, wX2_send_22, wX2_send_23, wX2_send_26, wX2_send_27, wX2_send_30, wX2_send_31, wX2_send_32, wX2_send_33, wX2_send_34, wX2_send_35, wX2_send_36, wX2_send_37, wX2_send_40, wX2_send_41, wX2_send_42, wX2_send_45, wX2_send_46, wX2_send_47, wX2_send_50, wX2_send_52, wX2_send_55, wX2_send_56, wX2_send_57, wX2_send_60, wX2_send_61, wX2_send_64, wX2_send_65, wX2_send_69, wX2_send_70, wX2_send_73, wX2_send_74, wX2_send_75, wX2_send_78, wX2_send_79, wX2_send_82, wX2_send_85, wX2_send_86, wX2_send_87, wX2_send_90, wX2_send_91, wX2_send_92, wX2_send_95, wX2_send_96, wX2_send_99, wX2_send_103, wX2_send_106, wX2_send_107, wX2_send_110, wX2_send_111i, wX2_send_111r, wX2_send_111n, wX2_send_113, wX2_send_114, wX2_send_117i, wX2_send_117r, wX2_send_117n, wX2_send_121, wX2_send_124, wX2_send_125, wX2_send_128, wX2_send_130, wX2_send_131, wX2_send_132, wX2_send_133, wX2_send_135, wX2_send_138, wX2_send_139, wX2_send_142, wX2_send_144, wX2_send_145, wX2_send_148, wX2_send_150, wX2_send_151, wX2_send_152, wX2_send_153, wX2_send_154, wX2_send_155, wX2_send_158, wX2_send_160, wX2_send_161, wX2_send_164, wX2_send_166, wX2_send_167, wX2_send_168, wX2_send_169, wX2_send_170i, wX2_send_170r, wX2_send_170n, wX2_send_173, wX2_send_176, wX2_send_177, wX2_send_180, wX2_send_182, wX2_send_184, wX2_send_185, wX2_send_186, wX2_send_189, wX2_send_191, wX2_send_192, wX2_send_195, wX2_send_196, wX2_send_199, wX2_send_200, wX2_send_201, wX2_send_202, wX2_send_203, wX2_send_204, wX2_send_205, wX2_send_206, wX2_send_207, wX2_send_209, wX2_send_210, wX2_send_211, wX2_send_212, wX2_send_215, wX2_send_216, wX2_send_217, wX2_send_219, wX2_send_220, wX2_send_221, wX2_send_222, wX2_send_223, wX2_send_224, wX2_send_227, wX2_send_228, wX2_send_229, wX2_send_232, c12, c13, c14, c15, v2, hkE, y0, yl, he, b1, hl', if_true, z5, s32, i6, k20, i3, and_self]
    -- the end of it, in whatever memory
    have fin : ∀ {b1 b2 L' : Nat} {g2 : Gh} {m2 : MI} {l2 : ML} {r2' : MR}, CS s off N n b1 b2 L' (inc r 6) q g2 m2 r2' → off + n < L' → Tr s a1 a2 L g mi ml mr b1 b2 L' g2 m2 l2 r2' → CRs s off N a1 a2 L g mi ml mr (R (d + 2) mX2_send 102 [.ref (s + 4), .ref (eA s e c), .int (nI k), .int (nI v), .null, .null] [] g2 m2 l2 r2') none (inc (inc r 6) 11, insQ q (mPos q (lN (t + D)) n) n (enc (t + D, e, c, k, v, xx))) := fun {b1 b2 L' g2 m2 l2 r2'} hC hlt hT => by
      obtain ⟨⟨-, -, ⟨f12, -, -, -⟩, -, -⟩, ⟨⟨j6, j7⟩, ⟨j1, j2, j3, j4⟩, ⟨j8, j9, j10, j11, j12⟩, j13, j14, j15, j16, j17⟩, ⟨-, -, f5⟩, ⟨f6, f7, f8, f9⟩, f10, f11⟩ := id hC
      have hoE := hC.2.1.out (a := eA s e c) (by unfold eA; omega) (by unfold eA; omega) (by unfold eA; omega) (by unfold eA; omega)
      have hoL := hC.2.1.out (a := s + 4) (by omega) (by omega) (by omega) (by omega)
      have t0 : m2 (s + 4) 0 = nI t := (hC.lv (j := 2) (by decide) (by decide) rfl rfl).trans ((u1_n (by decide)).trans h2)
      have t1 : m2 (s + 4) 1 = nI D := (hC.lv (j := 1) (by decide) (by decide) rfl rfl).trans ((u1_n (by decide)).trans h1)
      have e3 : m2 (eA s e c) 3 = oI o := (hC.ev he hc (w := 1) (by decide) rfl).trans ((u1_n (by have := eI_ge (e := e) (c := c) (w := 1); omega)).trans ho)
      have i2 : inc r 6 2 = nI t := (u1_n (by decide)).trans h2
      have hf := snd_fin (d := d + 2) (g := g2) (mi := m2) (ml := l2) (mr := r2') (l := s + 4) (x := eA s e c) (a1 := b1) (a2 := b2) (S := off + n) (L := L') (y := nI (t + D)) (kk := nI k) (vv := nI v) (u4 := .null) (u5 := .null) f12 (hC.kE he hc) j6 j7 j1 j2 j3 j4 j10 hlt j17.1 f7 (by rw [t0, t1, nI_add]) (fun h => hoE.1 h.symm) (fun h => hoE.2 h.symm) (fun h => hoL.1 h.symm) (fun h => hoL.2 h.symm) (f5 e c he hc).1 (f5 e c he hc).2 e3
      rw [oI_1 ho2, ct_make (a := t + D) (x := xx) he hc hk hv ho2, cPos_q (q := q) (B := m2 b2) i2 (by omega) f11 n f10] at hf
      have hins := hC.ins (m := (t + D, e, c, k, v, xx)) (z := o) hlt hok ho2 (fun h9 => (hx2 h9).2) (mPos_le (q := q) (b := lN (t + D)) n)
      refine ⟨n + 1, b1, b2, L', g2, _, l2, r2', hf, hins, ?_⟩
      refine Tr.up ?_ (by omega) (by omega)
      obtain ⟨⟨q1, q2, q3, q4⟩, q5⟩ := hT
      refine ⟨⟨fun a ha => ?_, q2, q3, q4⟩, q5⟩
      obtain ⟨w1, w2, w3, w4⟩ := q1 a ha
      refine ⟨w1, w2, w3, fun u1 u2 u3 => ?_⟩
      rw [M2_o (by omega) (by omega)]
      exact w4 u1 u2 u3
    by_cases hlt : off + n < L
    · have c1 : nI (off + n) < nI L := nI_lt hlt (by omega)
      simp only [c1, if_true]
      exact fin h' hlt T'
    · have hLe : L = off + n := by omega
      have c1 : ¬ nI (off + n) < nI L := fun h9 => hlt ((nI_ltI (by omega) (by omega)).mp h9)
      simp only [c1, if_false]
      obtain ⟨g2, m2, l2, r2', e1, e2, ⟨e3, e4, e5, e6, e7, e8⟩, ⟨e9, e10, e11⟩, e12, e13⟩ := c_grow (d := d) (g := g) (mi := u2 mi (s + 4) 2 (r 6 + nI 1)) (ml := ml) (mr := mr) (l := s + 4) (L := L) (x0 := .ref (eA s e c)) (x1 := .int (nI k)) (x2 := .int (nI v)) (x3 := .null) (x4 := .null) c12 i6 i7 i1 i2 i3 i4 (by omega) (by omega) (by rw [hLe]; exact z5) (by omega) i11 i12 (by have := hR.1; omega) (by have := hR.2; omega)
      rw [e1]
      have hsa : SA s g.2.2.1 (g.2.2.1 + 1) (2 * L) g2 r2' := ⟨⟨e3, e4⟩, ⟨e5, e6, e7, e8⟩, ⟨by omega, by omega, by omega, by omega, by omega⟩, by omega, by omega, by omega, by omega, by omega, by
        obtain ⟨k0, hk0⟩ := i13.2.2.2.2.2
        exact ⟨k0 + 1, by rw [hk0, Nat.pow_succ]; omega⟩⟩
      refine fin (h'.move (fun a ha ha2 => ⟨(e2 a (by omega)).1, (e2 a (by omega)).2.1⟩) (fun a ha ha2 _ _ => (e2 a (by omega)).2.2.1) (fun a f ha ha2 hf => (e2 a (by omega)).2.2.2.2 f hf) hsa (by omega) (fun i hi => e12 i (by omega)) (fun i hi => e13 i (by omega))) (by omega) (T'.tr ⟨⟨fun a ha => ⟨(e2 a ha).2.2.2.1, (e2 a ha).1, (e2 a ha).2.1, fun z1 z2 z3 => ⟨(e2 a ha).2.2.1, funext (fun f => (e2 a ha).2.2.2.2 f (fun h9 => z1 (by omega)))⟩⟩, by omega, Or.inr (Nat.le_refl _), Or.inr (by omega)⟩, ?_⟩)
      constructor
      · omega
      · omega
end CSN2
