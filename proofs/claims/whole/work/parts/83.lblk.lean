section LBLK
variable {i E K K' code L b : Nat} {S S' : Nat → PS} {P P' : PS} {g g' : Gh} {mi mi' : MI} {ml ml' : ML} {mr mr' : MR} {v z : Int32} {xs : Nat → Int32} {b5 b6 : Value}
theorem lb_setCircuits (h : LLs L xs b K S P g mi ml mr) (hi : i + 4 ≤ L) (hL : L ≤ 2048) (hcd : code ≤ 2) (hw : WR code v E K' S' P' g mi ml mr (callT 12 mL_setCircuits [.ref 2, .int (xs (i + 1)), .ref 297] (g, mi, ml, mr))) (hr : ∀ g mi ml mr, MG g mr → MS K S P mi ml → RC g mr mi ml (callT 12 mX5_setCircuits [.ref 292, .int (xs (i + 1))] (g, mi, ml, mr)) code (.int v) K' S' P') : LLb 152 L xs i E K' S' P' b5 b6 g mi ml mr := by
  obtain ⟨hT, ⟨hg, hM⟩, ⟨s1, s2, s3⟩, o1, o2⟩ := h
  obtain ⟨g', mi', ml', mr', e1, e2, e3, e4⟩ := hw
  obtain ⟨hg', hM', ⟨t1, t2, t3⟩, o3, o4⟩ := e4.keep hg hM s1 s2 s3 o1 o2
  obtain ⟨mi2, ml2, f1, f2, f3, f4⟩ := hr g' mi' ml' mr' hg' hM'
  have th := thrown_ (d := 11) (mi := mi2) (ml := ml2) hg'
  rw [f2] at th
  have th : callT 12 mX5_thrown [.ref 292] (g', mi2, ml2, mr') = some (.inl (some (.int (nI code))), g', mi2, ml2, mr') := th
  have k6 := hg'.1
  have l3 := ls_out (v := v) e3 f4
  have ls := ls_end e2 hg' f3 f4 t1 t2 t3 o3 o4
  have c1 : i + 1 < L := by omega
  have d1 : i + 1 < 2147483648 := by omega
  refine ⟨.int (nI code), .int v, g', mi2, ml2, mr', ?_, ls⟩
  by_cases hc0 : code = 0
  · subst hc0
    have l4 := l3 rfl
    simp only [wL_law_152, wL_law_153, wL_law_154, wL_law_156, wL_law_157, wL_law_158, wL_law_158s, wL_law_159, wL_law_160, wL_law_163i, wL_law_165, wL_law_166, wL_law_167, wL_law_169, wL_law_170, wL_law_171, wL_law_171s, wL_law_172, wL_law_175i, wL_law_177, wL_law_178, wL_law_181, wL_law_183, wL_law_186, wL_law_187, wL_law_188, wL_law_190, wL_law_193, wL_law_194, wL_law_195, wL_law_196, wL_law_198, wL_law_199, wL_law_200, wL_law_203, wL_law_204, wL_law_205, cs_0, cs_i, cs_r, s1, s2, s3, t1, t2, t3, nI_add, c1, d1, e1, f1, th, aR_1, k6, eq_self, if_true, o3, o4, l4, lg_self, Nat.reduceLT]
  · have nz : ¬ nI code = nI 0 := fun h9 => hc0 ((nI_eq (by omega) (by decide)).mp h9)
    simp only [wL_law_152, wL_law_153, wL_law_154, wL_law_156, wL_law_157, wL_law_158, wL_law_158s, wL_law_159, wL_law_160, wL_law_163i, wL_law_165, wL_law_166, wL_law_167, wL_law_169, wL_law_170, wL_law_171, wL_law_171s, wL_law_172, wL_law_175i, wL_law_177, wL_law_178, wL_law_181, wL_law_183, wL_law_186, wL_law_187, wL_law_188, wL_law_190, wL_law_193, wL_law_194, wL_law_195, wL_law_196, wL_law_198, wL_law_199, wL_law_200, wL_law_203, wL_law_204, wL_law_205, cs_0, cs_i, cs_r, s1, s2, s3, t1, t2, t3, nI_add, c1, d1, e1, f1, th, aR_1, k6, eq_self, if_true, nz, if_false]
theorem lb_setDelay (h : LLs L xs b K S P g mi ml mr) (hi : i + 4 ≤ L) (hL : L ≤ 2048) (hcd : code ≤ 2) (hw : WR code v E K' S' P' g mi ml mr (callT 12 mL_setDelay [.ref 2, .int (xs (i + 1)), .ref 297] (g, mi, ml, mr))) (hr : ∀ g mi ml mr, MG g mr → MS K S P mi ml → RC g mr mi ml (callT 12 mX5_setDelay [.ref 292, .int (xs (i + 1))] (g, mi, ml, mr)) code (.int v) K' S' P') : LLb 208 L xs i E K' S' P' b5 b6 g mi ml mr := by
  obtain ⟨hT, ⟨hg, hM⟩, ⟨s1, s2, s3⟩, o1, o2⟩ := h
  obtain ⟨g', mi', ml', mr', e1, e2, e3, e4⟩ := hw
  obtain ⟨hg', hM', ⟨t1, t2, t3⟩, o3, o4⟩ := e4.keep hg hM s1 s2 s3 o1 o2
  obtain ⟨mi2, ml2, f1, f2, f3, f4⟩ := hr g' mi' ml' mr' hg' hM'
  have th := thrown_ (d := 11) (mi := mi2) (ml := ml2) hg'
  rw [f2] at th
  have th : callT 12 mX5_thrown [.ref 292] (g', mi2, ml2, mr') = some (.inl (some (.int (nI code))), g', mi2, ml2, mr') := th
  have k6 := hg'.1
  have l3 := ls_out (v := v) e3 f4
  have ls := ls_end e2 hg' f3 f4 t1 t2 t3 o3 o4
  have c1 : i + 1 < L := by omega
  have d1 : i + 1 < 2147483648 := by omega
  refine ⟨.int (nI code), .int v, g', mi2, ml2, mr', ?_, ls⟩
  by_cases hc0 : code = 0
  · subst hc0
    have l4 := l3 rfl
    simp only [wL_law_208, wL_law_209, wL_law_210, wL_law_212, wL_law_213, wL_law_214, wL_law_214s, wL_law_215, wL_law_216, wL_law_219i, wL_law_221, wL_law_222, wL_law_223, wL_law_225, wL_law_226, wL_law_227, wL_law_227s, wL_law_228, wL_law_231i, wL_law_233, wL_law_234, wL_law_237, wL_law_239, wL_law_242, wL_law_243, wL_law_244, wL_law_246, wL_law_249, wL_law_250, wL_law_251, wL_law_252, wL_law_254, wL_law_255, wL_law_256, wL_law_259, wL_law_260, wL_law_261, cs_0, cs_i, cs_r, s1, s2, s3, t1, t2, t3, nI_add, c1, d1, e1, f1, th, aR_1, k6, eq_self, if_true, o3, o4, l4, lg_self, Nat.reduceLT]
  · have nz : ¬ nI code = nI 0 := fun h9 => hc0 ((nI_eq (by omega) (by decide)).mp h9)
    simp only [wL_law_208, wL_law_209, wL_law_210, wL_law_212, wL_law_213, wL_law_214, wL_law_214s, wL_law_215, wL_law_216, wL_law_219i, wL_law_221, wL_law_222, wL_law_223, wL_law_225, wL_law_226, wL_law_227, wL_law_227s, wL_law_228, wL_law_231i, wL_law_233, wL_law_234, wL_law_237, wL_law_239, wL_law_242, wL_law_243, wL_law_244, wL_law_246, wL_law_249, wL_law_250, wL_law_251, wL_law_252, wL_law_254, wL_law_255, wL_law_256, wL_law_259, wL_law_260, wL_law_261, cs_0, cs_i, cs_r, s1, s2, s3, t1, t2, t3, nI_add, c1, d1, e1, f1, th, aR_1, k6, eq_self, if_true, nz, if_false]
theorem lb_setFaulty (h : LLs L xs b K S P g mi ml mr) (hi : i + 4 ≤ L) (hL : L ≤ 2048) (hcd : code ≤ 2) (hv : v = nI 0 ∨ v = nI 1) (hz : (xs (i + 2) = nI 0 ∧ z = nI 0) ∨ (¬ xs (i + 2) = nI 0 ∧ z = nI 1)) (hw : WR code v E K' S' P' g mi ml mr (callT 12 mL_setFaulty [.ref 2, .int (xs (i + 1)), .int z, .ref 297] (g, mi, ml, mr))) (hr : ∀ g mi ml mr, MG g mr → MS K S P mi ml → RC g mr mi ml (callT 12 mX5_setFaulty [.ref 292, .int (xs (i + 1)), .int z] (g, mi, ml, mr)) code (.int v) K' S' P') : LLb 264 L xs i E K' S' P' b5 b6 g mi ml mr := by
  have n10 : ¬ nI 1 = nI 0 := by decide
  have t_0 : (nI 0).toInt64 = lN 0 := rfl
  have t_1 : (nI 1).toInt64 = lN 1 := rfl
  obtain ⟨hT, ⟨hg, hM⟩, ⟨s1, s2, s3⟩, o1, o2⟩ := h
  obtain ⟨g', mi', ml', mr', e1, e2, e3, e4⟩ := hw
  obtain ⟨hg', hM', ⟨t1, t2, t3⟩, o3, o4⟩ := e4.keep hg hM s1 s2 s3 o1 o2
  obtain ⟨mi2, ml2, f1, f2, f3, f4⟩ := hr g' mi' ml' mr' hg' hM'
  have th := thrown_ (d := 11) (mi := mi2) (ml := ml2) hg'
  rw [f2] at th
  have th : callT 12 mX5_thrown [.ref 292] (g', mi2, ml2, mr') = some (.inl (some (.int (nI code))), g', mi2, ml2, mr') := th
  have k6 := hg'.1
  have l3 := ls_out (v := v) e3 f4
  have ls := ls_end e2 hg' f3 f4 t1 t2 t3 o3 o4
  have c1 : i + 1 < L := by omega
  have d1 : i + 1 < 2147483648 := by omega
  have c2 : i + 2 < L := by omega
  have d2 : i + 2 < 2147483648 := by omega
  refine ⟨.int (nI code), .int v, g', mi2, ml2, mr', ?_, ls⟩
  rcases hz with ⟨z1, rfl⟩ | ⟨z1, rfl⟩
  · by_cases hc0 : code = 0
    · subst hc0
      have l4 := l3 rfl
      rcases hv with rfl | rfl
      · simp only [wL_law_264, wL_law_265, wL_law_266, wL_law_268, wL_law_269, wL_law_270, wL_law_270s, wL_law_271, wL_law_272, wL_law_274, wL_law_275, wL_law_276, wL_law_276s, wL_law_277, wL_law_280, wL_law_281, wL_law_284, wL_law_285, wL_law_286, wL_law_289i, wL_law_291, wL_law_292, wL_law_293, wL_law_295, wL_law_296, wL_law_297, wL_law_297s, wL_law_298, wL_law_299, wL_law_301, wL_law_302, wL_law_303, wL_law_303s, wL_law_304, wL_law_307, wL_law_308, wL_law_311, wL_law_312, wL_law_315i, wL_law_317, wL_law_318, wL_law_321, wL_law_323, wL_law_326, wL_law_327, wL_law_328, wL_law_330, wL_law_333, wL_law_334, wL_law_335, wL_law_336, wL_law_338, wL_law_341, wL_law_342, wL_law_345, wL_law_346, wL_law_347, wL_law_350, wL_law_351, wL_law_352, cs_0, cs_i, cs_r, s1, s2, s3, t1, t2, t3, nI_add, c1, d1, c2, d2, e1, f1, th, aR_1, k6, eq_self, if_true, z1, o3, o4, l4, t_0, lg_self, Nat.reduceLT]
      · simp only [wL_law_264, wL_law_265, wL_law_266, wL_law_268, wL_law_269, wL_law_270, wL_law_270s, wL_law_271, wL_law_272, wL_law_274, wL_law_275, wL_law_276, wL_law_276s, wL_law_277, wL_law_280, wL_law_281, wL_law_284, wL_law_285, wL_law_286, wL_law_289i, wL_law_291, wL_law_292, wL_law_293, wL_law_295, wL_law_296, wL_law_297, wL_law_297s, wL_law_298, wL_law_299, wL_law_301, wL_law_302, wL_law_303, wL_law_303s, wL_law_304, wL_law_307, wL_law_308, wL_law_311, wL_law_312, wL_law_315i, wL_law_317, wL_law_318, wL_law_321, wL_law_323, wL_law_326, wL_law_327, wL_law_328, wL_law_330, wL_law_333, wL_law_334, wL_law_335, wL_law_336, wL_law_338, wL_law_341, wL_law_342, wL_law_345, wL_law_346, wL_law_347, wL_law_350, wL_law_351, wL_law_352, cs_0, cs_i, cs_r, s1, s2, s3, t1, t2, t3, nI_add, c1, d1, c2, d2, e1, f1, th, aR_1, k6, eq_self, if_true, z1, o3, o4, l4, t_1, n10, if_false, lg_self, Nat.reduceLT]
    · have nz : ¬ nI code = nI 0 := fun h9 => hc0 ((nI_eq (by omega) (by decide)).mp h9)
      simp only [wL_law_264, wL_law_265, wL_law_266, wL_law_268, wL_law_269, wL_law_270, wL_law_270s, wL_law_271, wL_law_272, wL_law_274, wL_law_275, wL_law_276, wL_law_276s, wL_law_277, wL_law_280, wL_law_281, wL_law_284, wL_law_285, wL_law_286, wL_law_289i, wL_law_291, wL_law_292, wL_law_293, wL_law_295, wL_law_296, wL_law_297, wL_law_297s, wL_law_298, wL_law_299, wL_law_301, wL_law_302, wL_law_303, wL_law_303s, wL_law_304, wL_law_307, wL_law_308, wL_law_311, wL_law_312, wL_law_315i, wL_law_317, wL_law_318, wL_law_321, wL_law_323, wL_law_326, wL_law_327, wL_law_328, wL_law_330, wL_law_333, wL_law_334, wL_law_335, wL_law_336, wL_law_338, wL_law_341, wL_law_342, wL_law_345, wL_law_346, wL_law_347, wL_law_350, wL_law_351, wL_law_352, cs_0, cs_i, cs_r, s1, s2, s3, t1, t2, t3, nI_add, c1, d1, c2, d2, e1, f1, th, aR_1, k6, eq_self, if_true, z1, nz, if_false]
  · by_cases hc0 : code = 0
    · subst hc0
      have l4 := l3 rfl
      rcases hv with rfl | rfl
      · simp only [wL_law_264, wL_law_265, wL_law_266, wL_law_268, wL_law_269, wL_law_270, wL_law_270s, wL_law_271, wL_law_272, wL_law_274, wL_law_275, wL_law_276, wL_law_276s, wL_law_277, wL_law_280, wL_law_281, wL_law_284, wL_law_285, wL_law_286, wL_law_289i, wL_law_291, wL_law_292, wL_law_293, wL_law_295, wL_law_296, wL_law_297, wL_law_297s, wL_law_298, wL_law_299, wL_law_301, wL_law_302, wL_law_303, wL_law_303s, wL_law_304, wL_law_307, wL_law_308, wL_law_311, wL_law_312, wL_law_315i, wL_law_317, wL_law_318, wL_law_321, wL_law_323, wL_law_326, wL_law_327, wL_law_328, wL_law_330, wL_law_333, wL_law_334, wL_law_335, wL_law_336, wL_law_338, wL_law_341, wL_law_342, wL_law_345, wL_law_346, wL_law_347, wL_law_350, wL_law_351, wL_law_352, cs_0, cs_i, cs_r, s1, s2, s3, t1, t2, t3, nI_add, c1, d1, c2, d2, e1, f1, th, aR_1, k6, eq_self, if_true, z1, n10, if_false, o3, o4, l4, t_0, lg_self, Nat.reduceLT]
      · simp only [wL_law_264, wL_law_265, wL_law_266, wL_law_268, wL_law_269, wL_law_270, wL_law_270s, wL_law_271, wL_law_272, wL_law_274, wL_law_275, wL_law_276, wL_law_276s, wL_law_277, wL_law_280, wL_law_281, wL_law_284, wL_law_285, wL_law_286, wL_law_289i, wL_law_291, wL_law_292, wL_law_293, wL_law_295, wL_law_296, wL_law_297, wL_law_297s, wL_law_298, wL_law_299, wL_law_301, wL_law_302, wL_law_303, wL_law_303s, wL_law_304, wL_law_307, wL_law_308, wL_law_311, wL_law_312, wL_law_315i, wL_law_317, wL_law_318, wL_law_321, wL_law_323, wL_law_326, wL_law_327, wL_law_328, wL_law_330, wL_law_333, wL_law_334, wL_law_335, wL_law_336, wL_law_338, wL_law_341, wL_law_342, wL_law_345, wL_law_346, wL_law_347, wL_law_350, wL_law_351, wL_law_352, cs_0, cs_i, cs_r, s1, s2, s3, t1, t2, t3, nI_add, c1, d1, c2, d2, e1, f1, th, aR_1, k6, eq_self, if_true, z1, n10, if_false, o3, o4, l4, t_1, n10, if_false, lg_self, Nat.reduceLT]
    · have nz : ¬ nI code = nI 0 := fun h9 => hc0 ((nI_eq (by omega) (by decide)).mp h9)
      simp only [wL_law_264, wL_law_265, wL_law_266, wL_law_268, wL_law_269, wL_law_270, wL_law_270s, wL_law_271, wL_law_272, wL_law_274, wL_law_275, wL_law_276, wL_law_276s, wL_law_277, wL_law_280, wL_law_281, wL_law_284, wL_law_285, wL_law_286, wL_law_289i, wL_law_291, wL_law_292, wL_law_293, wL_law_295, wL_law_296, wL_law_297, wL_law_297s, wL_law_298, wL_law_299, wL_law_301, wL_law_302, wL_law_303, wL_law_303s, wL_law_304, wL_law_307, wL_law_308, wL_law_311, wL_law_312, wL_law_315i, wL_law_317, wL_law_318, wL_law_321, wL_law_323, wL_law_326, wL_law_327, wL_law_328, wL_law_330, wL_law_333, wL_law_334, wL_law_335, wL_law_336, wL_law_338, wL_law_341, wL_law_342, wL_law_345, wL_law_346, wL_law_347, wL_law_350, wL_law_351, wL_law_352, cs_0, cs_i, cs_r, s1, s2, s3, t1, t2, t3, nI_add, c1, d1, c2, d2, e1, f1, th, aR_1, k6, eq_self, if_true, z1, n10, if_false, nz, if_false]
theorem lb_loseNext (h : LLs L xs b K S P g mi ml mr) (hi : i + 4 ≤ L) (hL : L ≤ 2048) (hcd : code ≤ 2) (hw : WR code v E K' S' P' g mi ml mr (callT 12 mL_loseNext [.ref 2, .int (xs (i + 1)), .int (xs (i + 2)), .ref 297] (g, mi, ml, mr))) (hr : ∀ g mi ml mr, MG g mr → MS K S P mi ml → RC g mr mi ml (callT 12 mX5_loseNext [.ref 292, .int (xs (i + 1)), .int (xs (i + 2))] (g, mi, ml, mr)) code (.int v) K' S' P') : LLb 355 L xs i E K' S' P' b5 b6 g mi ml mr := by
  obtain ⟨hT, ⟨hg, hM⟩, ⟨s1, s2, s3⟩, o1, o2⟩ := h
  obtain ⟨g', mi', ml', mr', e1, e2, e3, e4⟩ := hw
  obtain ⟨hg', hM', ⟨t1, t2, t3⟩, o3, o4⟩ := e4.keep hg hM s1 s2 s3 o1 o2
  obtain ⟨mi2, ml2, f1, f2, f3, f4⟩ := hr g' mi' ml' mr' hg' hM'
  have th := thrown_ (d := 11) (mi := mi2) (ml := ml2) hg'
  rw [f2] at th
  have th : callT 12 mX5_thrown [.ref 292] (g', mi2, ml2, mr') = some (.inl (some (.int (nI code))), g', mi2, ml2, mr') := th
  have k6 := hg'.1
  have l3 := ls_out (v := v) e3 f4
  have ls := ls_end e2 hg' f3 f4 t1 t2 t3 o3 o4
  have c1 : i + 1 < L := by omega
  have d1 : i + 1 < 2147483648 := by omega
  have c2 : i + 2 < L := by omega
  have d2 : i + 2 < 2147483648 := by omega
  refine ⟨.int (nI code), .int v, g', mi2, ml2, mr', ?_, ls⟩
  by_cases hc0 : code = 0
  · subst hc0
    have l4 := l3 rfl
    simp only [wL_law_355, wL_law_356, wL_law_357, wL_law_359, wL_law_360, wL_law_361, wL_law_361s, wL_law_362, wL_law_363, wL_law_365, wL_law_366, wL_law_367, wL_law_367s, wL_law_368, wL_law_369, wL_law_372i, wL_law_374, wL_law_375, wL_law_376, wL_law_378, wL_law_379, wL_law_380, wL_law_380s, wL_law_381, wL_law_382, wL_law_384, wL_law_385, wL_law_386, wL_law_386s, wL_law_387, wL_law_390i, wL_law_392, wL_law_393, wL_law_396, wL_law_398, wL_law_401, wL_law_402, wL_law_403, wL_law_405, wL_law_408, wL_law_409, wL_law_410, wL_law_411, wL_law_413, wL_law_414, wL_law_415, wL_law_418, wL_law_419, wL_law_420, cs_0, cs_i, cs_r, s1, s2, s3, t1, t2, t3, nI_add, c1, d1, c2, d2, e1, f1, th, aR_1, k6, eq_self, if_true, o3, o4, l4, lg_self, Nat.reduceLT]
  · have nz : ¬ nI code = nI 0 := fun h9 => hc0 ((nI_eq (by omega) (by decide)).mp h9)
    simp only [wL_law_355, wL_law_356, wL_law_357, wL_law_359, wL_law_360, wL_law_361, wL_law_361s, wL_law_362, wL_law_363, wL_law_365, wL_law_366, wL_law_367, wL_law_367s, wL_law_368, wL_law_369, wL_law_372i, wL_law_374, wL_law_375, wL_law_376, wL_law_378, wL_law_379, wL_law_380, wL_law_380s, wL_law_381, wL_law_382, wL_law_384, wL_law_385, wL_law_386, wL_law_386s, wL_law_387, wL_law_390i, wL_law_392, wL_law_393, wL_law_396, wL_law_398, wL_law_401, wL_law_402, wL_law_403, wL_law_405, wL_law_408, wL_law_409, wL_law_410, wL_law_411, wL_law_413, wL_law_414, wL_law_415, wL_law_418, wL_law_419, wL_law_420, cs_0, cs_i, cs_r, s1, s2, s3, t1, t2, t3, nI_add, c1, d1, c2, d2, e1, f1, th, aR_1, k6, eq_self, if_true, nz, if_false]
theorem lb_call (h : LLs L xs b K S P g mi ml mr) (hi : i + 4 ≤ L) (hL : L ≤ 2048) (hcd : code ≤ 2) (hz : (xs (i + 2) = nI 0 ∧ z = nI 0) ∨ (¬ xs (i + 2) = nI 0 ∧ z = nI 1)) (hw : WR code v E K' S' P' g mi ml mr (callT 12 mL_call [.ref 2, .int (xs (i + 1)), .int z, .ref 297] (g, mi, ml, mr))) (hr : ∀ g mi ml mr, MG g mr → MS K S P mi ml → RC g mr mi ml (callT 12 mX5_call [.ref 292, .int (xs (i + 1)), .int z] (g, mi, ml, mr)) code (.int v) K' S' P') : LLb 423 L xs i E K' S' P' b5 b6 g mi ml mr := by
  have n10 : ¬ nI 1 = nI 0 := by decide
  obtain ⟨hT, ⟨hg, hM⟩, ⟨s1, s2, s3⟩, o1, o2⟩ := h
  obtain ⟨g', mi', ml', mr', e1, e2, e3, e4⟩ := hw
  obtain ⟨hg', hM', ⟨t1, t2, t3⟩, o3, o4⟩ := e4.keep hg hM s1 s2 s3 o1 o2
  obtain ⟨mi2, ml2, f1, f2, f3, f4⟩ := hr g' mi' ml' mr' hg' hM'
  have th := thrown_ (d := 11) (mi := mi2) (ml := ml2) hg'
  rw [f2] at th
  have th : callT 12 mX5_thrown [.ref 292] (g', mi2, ml2, mr') = some (.inl (some (.int (nI code))), g', mi2, ml2, mr') := th
  have k6 := hg'.1
  have l3 := ls_out (v := v) e3 f4
  have ls := ls_end e2 hg' f3 f4 t1 t2 t3 o3 o4
  have c1 : i + 1 < L := by omega
  have d1 : i + 1 < 2147483648 := by omega
  have c2 : i + 2 < L := by omega
  have d2 : i + 2 < 2147483648 := by omega
  refine ⟨.int (nI code), .int v, g', mi2, ml2, mr', ?_, ls⟩
  rcases hz with ⟨z1, rfl⟩ | ⟨z1, rfl⟩
  · by_cases hc0 : code = 0
    · subst hc0
      have l4 := l3 rfl
      simp only [wL_law_423, wL_law_424, wL_law_425, wL_law_427, wL_law_428, wL_law_429, wL_law_429s, wL_law_430, wL_law_431, wL_law_433, wL_law_434, wL_law_435, wL_law_435s, wL_law_436, wL_law_439, wL_law_440, wL_law_443, wL_law_444, wL_law_445, wL_law_448i, wL_law_450, wL_law_451, wL_law_452, wL_law_454, wL_law_455, wL_law_456, wL_law_456s, wL_law_457, wL_law_458, wL_law_460, wL_law_461, wL_law_462, wL_law_462s, wL_law_463, wL_law_466, wL_law_467, wL_law_470, wL_law_471, wL_law_474i, wL_law_476, wL_law_477, wL_law_480, wL_law_482, wL_law_485, wL_law_486, wL_law_487, wL_law_489, wL_law_492, wL_law_493, wL_law_494, wL_law_495, wL_law_497, wL_law_498, wL_law_499, wL_law_502, wL_law_503, wL_law_504, cs_0, cs_i, cs_r, s1, s2, s3, t1, t2, t3, nI_add, c1, d1, c2, d2, e1, f1, th, aR_1, k6, eq_self, if_true, z1, o3, o4, l4, lg_self, Nat.reduceLT]
    · have nz : ¬ nI code = nI 0 := fun h9 => hc0 ((nI_eq (by omega) (by decide)).mp h9)
      simp only [wL_law_423, wL_law_424, wL_law_425, wL_law_427, wL_law_428, wL_law_429, wL_law_429s, wL_law_430, wL_law_431, wL_law_433, wL_law_434, wL_law_435, wL_law_435s, wL_law_436, wL_law_439, wL_law_440, wL_law_443, wL_law_444, wL_law_445, wL_law_448i, wL_law_450, wL_law_451, wL_law_452, wL_law_454, wL_law_455, wL_law_456, wL_law_456s, wL_law_457, wL_law_458, wL_law_460, wL_law_461, wL_law_462, wL_law_462s, wL_law_463, wL_law_466, wL_law_467, wL_law_470, wL_law_471, wL_law_474i, wL_law_476, wL_law_477, wL_law_480, wL_law_482, wL_law_485, wL_law_486, wL_law_487, wL_law_489, wL_law_492, wL_law_493, wL_law_494, wL_law_495, wL_law_497, wL_law_498, wL_law_499, wL_law_502, wL_law_503, wL_law_504, cs_0, cs_i, cs_r, s1, s2, s3, t1, t2, t3, nI_add, c1, d1, c2, d2, e1, f1, th, aR_1, k6, eq_self, if_true, z1, nz, if_false]
  · by_cases hc0 : code = 0
    · subst hc0
      have l4 := l3 rfl
      simp only [wL_law_423, wL_law_424, wL_law_425, wL_law_427, wL_law_428, wL_law_429, wL_law_429s, wL_law_430, wL_law_431, wL_law_433, wL_law_434, wL_law_435, wL_law_435s, wL_law_436, wL_law_439, wL_law_440, wL_law_443, wL_law_444, wL_law_445, wL_law_448i, wL_law_450, wL_law_451, wL_law_452, wL_law_454, wL_law_455, wL_law_456, wL_law_456s, wL_law_457, wL_law_458, wL_law_460, wL_law_461, wL_law_462, wL_law_462s, wL_law_463, wL_law_466, wL_law_467, wL_law_470, wL_law_471, wL_law_474i, wL_law_476, wL_law_477, wL_law_480, wL_law_482, wL_law_485, wL_law_486, wL_law_487, wL_law_489, wL_law_492, wL_law_493, wL_law_494, wL_law_495, wL_law_497, wL_law_498, wL_law_499, wL_law_502, wL_law_503, wL_law_504, cs_0, cs_i, cs_r, s1, s2, s3, t1, t2, t3, nI_add, c1, d1, c2, d2, e1, f1, th, aR_1, k6, eq_self, if_true, z1, n10, if_false, o3, o4, l4, lg_self, Nat.reduceLT]
    · have nz : ¬ nI code = nI 0 := fun h9 => hc0 ((nI_eq (by omega) (by decide)).mp h9)
      simp only [wL_law_423, wL_law_424, wL_law_425, wL_law_427, wL_law_428, wL_law_429, wL_law_429s, wL_law_430, wL_law_431, wL_law_433, wL_law_434, wL_law_435, wL_law_435s, wL_law_436, wL_law_439, wL_law_440, wL_law_443, wL_law_444, wL_law_445, wL_law_448i, wL_law_450, wL_law_451, wL_law_452, wL_law_454, wL_law_455, wL_law_456, wL_law_456s, wL_law_457, wL_law_458, wL_law_460, wL_law_461, wL_law_462, wL_law_462s, wL_law_463, wL_law_466, wL_law_467, wL_law_470, wL_law_471, wL_law_474i, wL_law_476, wL_law_477, wL_law_480, wL_law_482, wL_law_485, wL_law_486, wL_law_487, wL_law_489, wL_law_492, wL_law_493, wL_law_494, wL_law_495, wL_law_497, wL_law_498, wL_law_499, wL_law_502, wL_law_503, wL_law_504, cs_0, cs_i, cs_r, s1, s2, s3, t1, t2, t3, nI_add, c1, d1, c2, d2, e1, f1, th, aR_1, k6, eq_self, if_true, z1, n10, if_false, nz, if_false]
theorem lb_accept (h : LLs L xs b K S P g mi ml mr) (hi : i + 4 ≤ L) (hL : L ≤ 2048) (hcd : code ≤ 2) (hw : WR code v E K' S' P' g mi ml mr (callT 12 mL_accept [.ref 2, .int (xs (i + 1)), .int (xs (i + 2)), .ref 297] (g, mi, ml, mr))) (hr : ∀ g mi ml mr, MG g mr → MS K S P mi ml → RC g mr mi ml (callT 12 mX5_accept [.ref 292, .int (xs (i + 1)), .int (xs (i + 2))] (g, mi, ml, mr)) code (.int v) K' S' P') : LLb 507 L xs i E K' S' P' b5 b6 g mi ml mr := by
  obtain ⟨hT, ⟨hg, hM⟩, ⟨s1, s2, s3⟩, o1, o2⟩ := h
  obtain ⟨g', mi', ml', mr', e1, e2, e3, e4⟩ := hw
  obtain ⟨hg', hM', ⟨t1, t2, t3⟩, o3, o4⟩ := e4.keep hg hM s1 s2 s3 o1 o2
  obtain ⟨mi2, ml2, f1, f2, f3, f4⟩ := hr g' mi' ml' mr' hg' hM'
  have th := thrown_ (d := 11) (mi := mi2) (ml := ml2) hg'
  rw [f2] at th
  have th : callT 12 mX5_thrown [.ref 292] (g', mi2, ml2, mr') = some (.inl (some (.int (nI code))), g', mi2, ml2, mr') := th
  have k6 := hg'.1
  have l3 := ls_out (v := v) e3 f4
  have ls := ls_end e2 hg' f3 f4 t1 t2 t3 o3 o4
  have c1 : i + 1 < L := by omega
  have d1 : i + 1 < 2147483648 := by omega
  have c2 : i + 2 < L := by omega
  have d2 : i + 2 < 2147483648 := by omega
  refine ⟨.int (nI code), .int v, g', mi2, ml2, mr', ?_, ls⟩
  by_cases hc0 : code = 0
  · subst hc0
    have l4 := l3 rfl
    simp only [wL_law_507, wL_law_508, wL_law_509, wL_law_511, wL_law_512, wL_law_513, wL_law_513s, wL_law_514, wL_law_515, wL_law_517, wL_law_518, wL_law_519, wL_law_519s, wL_law_520, wL_law_521, wL_law_524i, wL_law_526, wL_law_527, wL_law_528, wL_law_530, wL_law_531, wL_law_532, wL_law_532s, wL_law_533, wL_law_534, wL_law_536, wL_law_537, wL_law_538, wL_law_538s, wL_law_539, wL_law_542i, wL_law_544, wL_law_545, wL_law_548, wL_law_550, wL_law_553, wL_law_554, wL_law_555, wL_law_557, wL_law_560, wL_law_561, wL_law_562, wL_law_563, wL_law_565, wL_law_566, wL_law_567, wL_law_570, wL_law_571, wL_law_572, cs_0, cs_i, cs_r, s1, s2, s3, t1, t2, t3, nI_add, c1, d1, c2, d2, e1, f1, th, aR_1, k6, eq_self, if_true, o3, o4, l4, lg_self, Nat.reduceLT]
  · have nz : ¬ nI code = nI 0 := fun h9 => hc0 ((nI_eq (by omega) (by decide)).mp h9)
    simp only [wL_law_507, wL_law_508, wL_law_509, wL_law_511, wL_law_512, wL_law_513, wL_law_513s, wL_law_514, wL_law_515, wL_law_517, wL_law_518, wL_law_519, wL_law_519s, wL_law_520, wL_law_521, wL_law_524i, wL_law_526, wL_law_527, wL_law_528, wL_law_530, wL_law_531, wL_law_532, wL_law_532s, wL_law_533, wL_law_534, wL_law_536, wL_law_537, wL_law_538, wL_law_538s, wL_law_539, wL_law_542i, wL_law_544, wL_law_545, wL_law_548, wL_law_550, wL_law_553, wL_law_554, wL_law_555, wL_law_557, wL_law_560, wL_law_561, wL_law_562, wL_law_563, wL_law_565, wL_law_566, wL_law_567, wL_law_570, wL_law_571, wL_law_572, cs_0, cs_i, cs_r, s1, s2, s3, t1, t2, t3, nI_add, c1, d1, c2, d2, e1, f1, th, aR_1, k6, eq_self, if_true, nz, if_false]
theorem lb_answer (h : LLs L xs b K S P g mi ml mr) (hi : i + 4 ≤ L) (hL : L ≤ 2048) (hcd : code ≤ 2) (hw : WR code v E K' S' P' g mi ml mr (callT 12 mL_answer [.ref 2, .int (xs (i + 1)), .int (xs (i + 2)), .ref 297] (g, mi, ml, mr))) (hr : ∀ g mi ml mr, MG g mr → MS K S P mi ml → RC g mr mi ml (callT 12 mX5_answer [.ref 292, .int (xs (i + 1)), .int (xs (i + 2))] (g, mi, ml, mr)) code (.int v) K' S' P') : LLb 575 L xs i E K' S' P' b5 b6 g mi ml mr := by
  obtain ⟨hT, ⟨hg, hM⟩, ⟨s1, s2, s3⟩, o1, o2⟩ := h
  obtain ⟨g', mi', ml', mr', e1, e2, e3, e4⟩ := hw
  obtain ⟨hg', hM', ⟨t1, t2, t3⟩, o3, o4⟩ := e4.keep hg hM s1 s2 s3 o1 o2
  obtain ⟨mi2, ml2, f1, f2, f3, f4⟩ := hr g' mi' ml' mr' hg' hM'
  have th := thrown_ (d := 11) (mi := mi2) (ml := ml2) hg'
  rw [f2] at th
  have th : callT 12 mX5_thrown [.ref 292] (g', mi2, ml2, mr') = some (.inl (some (.int (nI code))), g', mi2, ml2, mr') := th
  have k6 := hg'.1
  have l3 := ls_out (v := v) e3 f4
  have ls := ls_end e2 hg' f3 f4 t1 t2 t3 o3 o4
  have c1 : i + 1 < L := by omega
  have d1 : i + 1 < 2147483648 := by omega
  have c2 : i + 2 < L := by omega
  have d2 : i + 2 < 2147483648 := by omega
  refine ⟨.int (nI code), .int v, g', mi2, ml2, mr', ?_, ls⟩
  by_cases hc0 : code = 0
  · subst hc0
    have l4 := l3 rfl
    simp only [wL_law_575, wL_law_576, wL_law_577, wL_law_579, wL_law_580, wL_law_581, wL_law_581s, wL_law_582, wL_law_583, wL_law_585, wL_law_586, wL_law_587, wL_law_587s, wL_law_588, wL_law_589, wL_law_592i, wL_law_594, wL_law_595, wL_law_596, wL_law_598, wL_law_599, wL_law_600, wL_law_600s, wL_law_601, wL_law_602, wL_law_604, wL_law_605, wL_law_606, wL_law_606s, wL_law_607, wL_law_610i, wL_law_612, wL_law_613, wL_law_616, wL_law_618, wL_law_621, wL_law_622, wL_law_623, wL_law_625, wL_law_628, wL_law_629, wL_law_630, wL_law_631, wL_law_633, wL_law_634, wL_law_635, wL_law_638, wL_law_639, wL_law_640, cs_0, cs_i, cs_r, s1, s2, s3, t1, t2, t3, nI_add, c1, d1, c2, d2, e1, f1, th, aR_1, k6, eq_self, if_true, o3, o4, l4, lg_self, Nat.reduceLT]
  · have nz : ¬ nI code = nI 0 := fun h9 => hc0 ((nI_eq (by omega) (by decide)).mp h9)
    simp only [wL_law_575, wL_law_576, wL_law_577, wL_law_579, wL_law_580, wL_law_581, wL_law_581s, wL_law_582, wL_law_583, wL_law_585, wL_law_586, wL_law_587, wL_law_587s, wL_law_588, wL_law_589, wL_law_592i, wL_law_594, wL_law_595, wL_law_596, wL_law_598, wL_law_599, wL_law_600, wL_law_600s, wL_law_601, wL_law_602, wL_law_604, wL_law_605, wL_law_606, wL_law_606s, wL_law_607, wL_law_610i, wL_law_612, wL_law_613, wL_law_616, wL_law_618, wL_law_621, wL_law_622, wL_law_623, wL_law_625, wL_law_628, wL_law_629, wL_law_630, wL_law_631, wL_law_633, wL_law_634, wL_law_635, wL_law_638, wL_law_639, wL_law_640, cs_0, cs_i, cs_r, s1, s2, s3, t1, t2, t3, nI_add, c1, d1, c2, d2, e1, f1, th, aR_1, k6, eq_self, if_true, nz, if_false]
theorem lb_suspend (h : LLs L xs b K S P g mi ml mr) (hi : i + 4 ≤ L) (hL : L ≤ 2048) (hcd : code ≤ 2) (hw : WR code v E K' S' P' g mi ml mr (callT 12 mL_suspend [.ref 2, .int (xs (i + 1)), .int (xs (i + 2)), .ref 297] (g, mi, ml, mr))) (hr : ∀ g mi ml mr, MG g mr → MS K S P mi ml → RC g mr mi ml (callT 12 mX5_suspend [.ref 292, .int (xs (i + 1)), .int (xs (i + 2))] (g, mi, ml, mr)) code (.int v) K' S' P') : LLb 643 L xs i E K' S' P' b5 b6 g mi ml mr := by
  obtain ⟨hT, ⟨hg, hM⟩, ⟨s1, s2, s3⟩, o1, o2⟩ := h
  obtain ⟨g', mi', ml', mr', e1, e2, e3, e4⟩ := hw
  obtain ⟨hg', hM', ⟨t1, t2, t3⟩, o3, o4⟩ := e4.keep hg hM s1 s2 s3 o1 o2
  obtain ⟨mi2, ml2, f1, f2, f3, f4⟩ := hr g' mi' ml' mr' hg' hM'
  have th := thrown_ (d := 11) (mi := mi2) (ml := ml2) hg'
  rw [f2] at th
  have th : callT 12 mX5_thrown [.ref 292] (g', mi2, ml2, mr') = some (.inl (some (.int (nI code))), g', mi2, ml2, mr') := th
  have k6 := hg'.1
  have l3 := ls_out (v := v) e3 f4
  have ls := ls_end e2 hg' f3 f4 t1 t2 t3 o3 o4
  have c1 : i + 1 < L := by omega
  have d1 : i + 1 < 2147483648 := by omega
  have c2 : i + 2 < L := by omega
  have d2 : i + 2 < 2147483648 := by omega
  refine ⟨.int (nI code), .int v, g', mi2, ml2, mr', ?_, ls⟩
  by_cases hc0 : code = 0
  · subst hc0
    have l4 := l3 rfl
    simp only [wL_law_643, wL_law_644, wL_law_645, wL_law_647, wL_law_648, wL_law_649, wL_law_649s, wL_law_650, wL_law_651, wL_law_653, wL_law_654, wL_law_655, wL_law_655s, wL_law_656, wL_law_657, wL_law_660i, wL_law_662, wL_law_663, wL_law_664, wL_law_666, wL_law_667, wL_law_668, wL_law_668s, wL_law_669, wL_law_670, wL_law_672, wL_law_673, wL_law_674, wL_law_674s, wL_law_675, wL_law_678i, wL_law_680, wL_law_681, wL_law_684, wL_law_686, wL_law_689, wL_law_690, wL_law_691, wL_law_693, wL_law_696, wL_law_697, wL_law_698, wL_law_699, wL_law_701, wL_law_702, wL_law_703, wL_law_706, wL_law_707, wL_law_708, cs_0, cs_i, cs_r, s1, s2, s3, t1, t2, t3, nI_add, c1, d1, c2, d2, e1, f1, th, aR_1, k6, eq_self, if_true, o3, o4, l4, lg_self, Nat.reduceLT]
  · have nz : ¬ nI code = nI 0 := fun h9 => hc0 ((nI_eq (by omega) (by decide)).mp h9)
    simp only [wL_law_643, wL_law_644, wL_law_645, wL_law_647, wL_law_648, wL_law_649, wL_law_649s, wL_law_650, wL_law_651, wL_law_653, wL_law_654, wL_law_655, wL_law_655s, wL_law_656, wL_law_657, wL_law_660i, wL_law_662, wL_law_663, wL_law_664, wL_law_666, wL_law_667, wL_law_668, wL_law_668s, wL_law_669, wL_law_670, wL_law_672, wL_law_673, wL_law_674, wL_law_674s, wL_law_675, wL_law_678i, wL_law_680, wL_law_681, wL_law_684, wL_law_686, wL_law_689, wL_law_690, wL_law_691, wL_law_693, wL_law_696, wL_law_697, wL_law_698, wL_law_699, wL_law_701, wL_law_702, wL_law_703, wL_law_706, wL_law_707, wL_law_708, cs_0, cs_i, cs_r, s1, s2, s3, t1, t2, t3, nI_add, c1, d1, c2, d2, e1, f1, th, aR_1, k6, eq_self, if_true, nz, if_false]
theorem lb_resume (h : LLs L xs b K S P g mi ml mr) (hi : i + 4 ≤ L) (hL : L ≤ 2048) (hcd : code ≤ 2) (hw : WR code v E K' S' P' g mi ml mr (callT 12 mL_resume [.ref 2, .int (xs (i + 1)), .int (xs (i + 2)), .ref 297] (g, mi, ml, mr))) (hr : ∀ g mi ml mr, MG g mr → MS K S P mi ml → RC g mr mi ml (callT 12 mX5_resume [.ref 292, .int (xs (i + 1)), .int (xs (i + 2))] (g, mi, ml, mr)) code (.int v) K' S' P') : LLb 711 L xs i E K' S' P' b5 b6 g mi ml mr := by
  obtain ⟨hT, ⟨hg, hM⟩, ⟨s1, s2, s3⟩, o1, o2⟩ := h
  obtain ⟨g', mi', ml', mr', e1, e2, e3, e4⟩ := hw
  obtain ⟨hg', hM', ⟨t1, t2, t3⟩, o3, o4⟩ := e4.keep hg hM s1 s2 s3 o1 o2
  obtain ⟨mi2, ml2, f1, f2, f3, f4⟩ := hr g' mi' ml' mr' hg' hM'
  have th := thrown_ (d := 11) (mi := mi2) (ml := ml2) hg'
  rw [f2] at th
  have th : callT 12 mX5_thrown [.ref 292] (g', mi2, ml2, mr') = some (.inl (some (.int (nI code))), g', mi2, ml2, mr') := th
  have k6 := hg'.1
  have l3 := ls_out (v := v) e3 f4
  have ls := ls_end e2 hg' f3 f4 t1 t2 t3 o3 o4
  have c1 : i + 1 < L := by omega
  have d1 : i + 1 < 2147483648 := by omega
  have c2 : i + 2 < L := by omega
  have d2 : i + 2 < 2147483648 := by omega
  refine ⟨.int (nI code), .int v, g', mi2, ml2, mr', ?_, ls⟩
  by_cases hc0 : code = 0
  · subst hc0
    have l4 := l3 rfl
    simp only [wL_law_711, wL_law_712, wL_law_713, wL_law_715, wL_law_716, wL_law_717, wL_law_717s, wL_law_718, wL_law_719, wL_law_721, wL_law_722, wL_law_723, wL_law_723s, wL_law_724, wL_law_725, wL_law_728i, wL_law_730, wL_law_731, wL_law_732, wL_law_734, wL_law_735, wL_law_736, wL_law_736s, wL_law_737, wL_law_738, wL_law_740, wL_law_741, wL_law_742, wL_law_742s, wL_law_743, wL_law_746i, wL_law_748, wL_law_749, wL_law_752, wL_law_754, wL_law_757, wL_law_758, wL_law_759, wL_law_761, wL_law_764, wL_law_765, wL_law_766, wL_law_767, wL_law_769, wL_law_770, wL_law_771, wL_law_774, wL_law_775, wL_law_776, cs_0, cs_i, cs_r, s1, s2, s3, t1, t2, t3, nI_add, c1, d1, c2, d2, e1, f1, th, aR_1, k6, eq_self, if_true, o3, o4, l4, lg_self, Nat.reduceLT]
  · have nz : ¬ nI code = nI 0 := fun h9 => hc0 ((nI_eq (by omega) (by decide)).mp h9)
    simp only [wL_law_711, wL_law_712, wL_law_713, wL_law_715, wL_law_716, wL_law_717, wL_law_717s, wL_law_718, wL_law_719, wL_law_721, wL_law_722, wL_law_723, wL_law_723s, wL_law_724, wL_law_725, wL_law_728i, wL_law_730, wL_law_731, wL_law_732, wL_law_734, wL_law_735, wL_law_736, wL_law_736s, wL_law_737, wL_law_738, wL_law_740, wL_law_741, wL_law_742, wL_law_742s, wL_law_743, wL_law_746i, wL_law_748, wL_law_749, wL_law_752, wL_law_754, wL_law_757, wL_law_758, wL_law_759, wL_law_761, wL_law_764, wL_law_765, wL_law_766, wL_law_767, wL_law_769, wL_law_770, wL_law_771, wL_law_774, wL_law_775, wL_law_776, cs_0, cs_i, cs_r, s1, s2, s3, t1, t2, t3, nI_add, c1, d1, c2, d2, e1, f1, th, aR_1, k6, eq_self, if_true, nz, if_false]
theorem lb_release (h : LLs L xs b K S P g mi ml mr) (hi : i + 4 ≤ L) (hL : L ≤ 2048) (hcd : code ≤ 2) (hw : WR code v E K' S' P' g mi ml mr (callT 12 mL_release [.ref 2, .int (xs (i + 1)), .int (xs (i + 2)), .ref 297] (g, mi, ml, mr))) (hr : ∀ g mi ml mr, MG g mr → MS K S P mi ml → RC g mr mi ml (callT 12 mX5_release [.ref 292, .int (xs (i + 1)), .int (xs (i + 2))] (g, mi, ml, mr)) code (.int v) K' S' P') : LLb 779 L xs i E K' S' P' b5 b6 g mi ml mr := by
  obtain ⟨hT, ⟨hg, hM⟩, ⟨s1, s2, s3⟩, o1, o2⟩ := h
  obtain ⟨g', mi', ml', mr', e1, e2, e3, e4⟩ := hw
  obtain ⟨hg', hM', ⟨t1, t2, t3⟩, o3, o4⟩ := e4.keep hg hM s1 s2 s3 o1 o2
  obtain ⟨mi2, ml2, f1, f2, f3, f4⟩ := hr g' mi' ml' mr' hg' hM'
  have th := thrown_ (d := 11) (mi := mi2) (ml := ml2) hg'
  rw [f2] at th
  have th : callT 12 mX5_thrown [.ref 292] (g', mi2, ml2, mr') = some (.inl (some (.int (nI code))), g', mi2, ml2, mr') := th
  have k6 := hg'.1
  have l3 := ls_out (v := v) e3 f4
  have ls := ls_end e2 hg' f3 f4 t1 t2 t3 o3 o4
  have c1 : i + 1 < L := by omega
  have d1 : i + 1 < 2147483648 := by omega
  have c2 : i + 2 < L := by omega
  have d2 : i + 2 < 2147483648 := by omega
  refine ⟨.int (nI code), .int v, g', mi2, ml2, mr', ?_, ls⟩
  by_cases hc0 : code = 0
  · subst hc0
    have l4 := l3 rfl
    simp only [wL_law_779, wL_law_780, wL_law_781, wL_law_783, wL_law_784, wL_law_785, wL_law_785s, wL_law_786, wL_law_787, wL_law_789, wL_law_790, wL_law_791, wL_law_791s, wL_law_792, wL_law_793, wL_law_796i, wL_law_798, wL_law_799, wL_law_800, wL_law_802, wL_law_803, wL_law_804, wL_law_804s, wL_law_805, wL_law_806, wL_law_808, wL_law_809, wL_law_810, wL_law_810s, wL_law_811, wL_law_814i, wL_law_816, wL_law_817, wL_law_820, wL_law_822, wL_law_825, wL_law_826, wL_law_827, wL_law_829, wL_law_832, wL_law_833, wL_law_834, wL_law_835, wL_law_837, wL_law_838, wL_law_839, wL_law_842, wL_law_843, wL_law_844, cs_0, cs_i, cs_r, s1, s2, s3, t1, t2, t3, nI_add, c1, d1, c2, d2, e1, f1, th, aR_1, k6, eq_self, if_true, o3, o4, l4, lg_self, Nat.reduceLT]
  · have nz : ¬ nI code = nI 0 := fun h9 => hc0 ((nI_eq (by omega) (by decide)).mp h9)
    simp only [wL_law_779, wL_law_780, wL_law_781, wL_law_783, wL_law_784, wL_law_785, wL_law_785s, wL_law_786, wL_law_787, wL_law_789, wL_law_790, wL_law_791, wL_law_791s, wL_law_792, wL_law_793, wL_law_796i, wL_law_798, wL_law_799, wL_law_800, wL_law_802, wL_law_803, wL_law_804, wL_law_804s, wL_law_805, wL_law_806, wL_law_808, wL_law_809, wL_law_810, wL_law_810s, wL_law_811, wL_law_814i, wL_law_816, wL_law_817, wL_law_820, wL_law_822, wL_law_825, wL_law_826, wL_law_827, wL_law_829, wL_law_832, wL_law_833, wL_law_834, wL_law_835, wL_law_837, wL_law_838, wL_law_839, wL_law_842, wL_law_843, wL_law_844, cs_0, cs_i, cs_r, s1, s2, s3, t1, t2, t3, nI_add, c1, d1, c2, d2, e1, f1, th, aR_1, k6, eq_self, if_true, nz, if_false]
theorem lb_block (h : LLs L xs b K S P g mi ml mr) (hi : i + 4 ≤ L) (hL : L ≤ 2048) (hcd : code ≤ 2) (hw : WR code v E K' S' P' g mi ml mr (callT 12 mL_block [.ref 2, .int (xs (i + 1)), .int (xs (i + 2)), .ref 297] (g, mi, ml, mr))) (hr : ∀ g mi ml mr, MG g mr → MS K S P mi ml → RC g mr mi ml (callT 12 mX5_block [.ref 292, .int (xs (i + 1)), .int (xs (i + 2))] (g, mi, ml, mr)) code (.int v) K' S' P') : LLb 847 L xs i E K' S' P' b5 b6 g mi ml mr := by
  obtain ⟨hT, ⟨hg, hM⟩, ⟨s1, s2, s3⟩, o1, o2⟩ := h
  obtain ⟨g', mi', ml', mr', e1, e2, e3, e4⟩ := hw
  obtain ⟨hg', hM', ⟨t1, t2, t3⟩, o3, o4⟩ := e4.keep hg hM s1 s2 s3 o1 o2
  obtain ⟨mi2, ml2, f1, f2, f3, f4⟩ := hr g' mi' ml' mr' hg' hM'
  have th := thrown_ (d := 11) (mi := mi2) (ml := ml2) hg'
  rw [f2] at th
  have th : callT 12 mX5_thrown [.ref 292] (g', mi2, ml2, mr') = some (.inl (some (.int (nI code))), g', mi2, ml2, mr') := th
  have k6 := hg'.1
  have l3 := ls_out (v := v) e3 f4
  have ls := ls_end e2 hg' f3 f4 t1 t2 t3 o3 o4
  have c1 : i + 1 < L := by omega
  have d1 : i + 1 < 2147483648 := by omega
  have c2 : i + 2 < L := by omega
  have d2 : i + 2 < 2147483648 := by omega
  refine ⟨.int (nI code), .int v, g', mi2, ml2, mr', ?_, ls⟩
  by_cases hc0 : code = 0
  · subst hc0
    have l4 := l3 rfl
    simp only [wL_law_847, wL_law_848, wL_law_849, wL_law_851, wL_law_852, wL_law_853, wL_law_853s, wL_law_854, wL_law_855, wL_law_857, wL_law_858, wL_law_859, wL_law_859s, wL_law_860, wL_law_861, wL_law_864i, wL_law_866, wL_law_867, wL_law_868, wL_law_870, wL_law_871, wL_law_872, wL_law_872s, wL_law_873, wL_law_874, wL_law_876, wL_law_877, wL_law_878, wL_law_878s, wL_law_879, wL_law_882i, wL_law_884, wL_law_885, wL_law_888, wL_law_890, wL_law_893, wL_law_894, wL_law_895, wL_law_897, wL_law_900, wL_law_901, wL_law_902, wL_law_903, wL_law_905, wL_law_906, wL_law_907, wL_law_910, wL_law_911, wL_law_912, cs_0, cs_i, cs_r, s1, s2, s3, t1, t2, t3, nI_add, c1, d1, c2, d2, e1, f1, th, aR_1, k6, eq_self, if_true, o3, o4, l4, lg_self, Nat.reduceLT]
  · have nz : ¬ nI code = nI 0 := fun h9 => hc0 ((nI_eq (by omega) (by decide)).mp h9)
    simp only [wL_law_847, wL_law_848, wL_law_849, wL_law_851, wL_law_852, wL_law_853, wL_law_853s, wL_law_854, wL_law_855, wL_law_857, wL_law_858, wL_law_859, wL_law_859s, wL_law_860, wL_law_861, wL_law_864i, wL_law_866, wL_law_867, wL_law_868, wL_law_870, wL_law_871, wL_law_872, wL_law_872s, wL_law_873, wL_law_874, wL_law_876, wL_law_877, wL_law_878, wL_law_878s, wL_law_879, wL_law_882i, wL_law_884, wL_law_885, wL_law_888, wL_law_890, wL_law_893, wL_law_894, wL_law_895, wL_law_897, wL_law_900, wL_law_901, wL_law_902, wL_law_903, wL_law_905, wL_law_906, wL_law_907, wL_law_910, wL_law_911, wL_law_912, cs_0, cs_i, cs_r, s1, s2, s3, t1, t2, t3, nI_add, c1, d1, c2, d2, e1, f1, th, aR_1, k6, eq_self, if_true, nz, if_false]
theorem lb_unblock (h : LLs L xs b K S P g mi ml mr) (hi : i + 4 ≤ L) (hL : L ≤ 2048) (hcd : code ≤ 2) (hw : WR code v E K' S' P' g mi ml mr (callT 12 mL_unblock [.ref 2, .int (xs (i + 1)), .int (xs (i + 2)), .ref 297] (g, mi, ml, mr))) (hr : ∀ g mi ml mr, MG g mr → MS K S P mi ml → RC g mr mi ml (callT 12 mX5_unblock [.ref 292, .int (xs (i + 1)), .int (xs (i + 2))] (g, mi, ml, mr)) code (.int v) K' S' P') : LLb 915 L xs i E K' S' P' b5 b6 g mi ml mr := by
  obtain ⟨hT, ⟨hg, hM⟩, ⟨s1, s2, s3⟩, o1, o2⟩ := h
  obtain ⟨g', mi', ml', mr', e1, e2, e3, e4⟩ := hw
  obtain ⟨hg', hM', ⟨t1, t2, t3⟩, o3, o4⟩ := e4.keep hg hM s1 s2 s3 o1 o2
  obtain ⟨mi2, ml2, f1, f2, f3, f4⟩ := hr g' mi' ml' mr' hg' hM'
  have th := thrown_ (d := 11) (mi := mi2) (ml := ml2) hg'
  rw [f2] at th
  have th : callT 12 mX5_thrown [.ref 292] (g', mi2, ml2, mr') = some (.inl (some (.int (nI code))), g', mi2, ml2, mr') := th
  have k6 := hg'.1
  have l3 := ls_out (v := v) e3 f4
  have ls := ls_end e2 hg' f3 f4 t1 t2 t3 o3 o4
  have c1 : i + 1 < L := by omega
  have d1 : i + 1 < 2147483648 := by omega
  have c2 : i + 2 < L := by omega
  have d2 : i + 2 < 2147483648 := by omega
  refine ⟨.int (nI code), .int v, g', mi2, ml2, mr', ?_, ls⟩
  by_cases hc0 : code = 0
  · subst hc0
    have l4 := l3 rfl
    simp only [wL_law_915, wL_law_916, wL_law_917, wL_law_919, wL_law_920, wL_law_921, wL_law_921s, wL_law_922, wL_law_923, wL_law_925, wL_law_926, wL_law_927, wL_law_927s, wL_law_928, wL_law_929, wL_law_932i, wL_law_934, wL_law_935, wL_law_936, wL_law_938, wL_law_939, wL_law_940, wL_law_940s, wL_law_941, wL_law_942, wL_law_944, wL_law_945, wL_law_946, wL_law_946s, wL_law_947, wL_law_950i, wL_law_952, wL_law_953, wL_law_956, wL_law_958, wL_law_961, wL_law_962, wL_law_963, wL_law_965, wL_law_968, wL_law_969, wL_law_970, wL_law_971, wL_law_973, wL_law_974, wL_law_975, wL_law_978, wL_law_979, wL_law_980, cs_0, cs_i, cs_r, s1, s2, s3, t1, t2, t3, nI_add, c1, d1, c2, d2, e1, f1, th, aR_1, k6, eq_self, if_true, o3, o4, l4, lg_self, Nat.reduceLT]
  · have nz : ¬ nI code = nI 0 := fun h9 => hc0 ((nI_eq (by omega) (by decide)).mp h9)
    simp only [wL_law_915, wL_law_916, wL_law_917, wL_law_919, wL_law_920, wL_law_921, wL_law_921s, wL_law_922, wL_law_923, wL_law_925, wL_law_926, wL_law_927, wL_law_927s, wL_law_928, wL_law_929, wL_law_932i, wL_law_934, wL_law_935, wL_law_936, wL_law_938, wL_law_939, wL_law_940, wL_law_940s, wL_law_941, wL_law_942, wL_law_944, wL_law_945, wL_law_946, wL_law_946s, wL_law_947, wL_law_950i, wL_law_952, wL_law_953, wL_law_956, wL_law_958, wL_law_961, wL_law_962, wL_law_963, wL_law_965, wL_law_968, wL_law_969, wL_law_970, wL_law_971, wL_law_973, wL_law_974, wL_law_975, wL_law_978, wL_law_979, wL_law_980, cs_0, cs_i, cs_r, s1, s2, s3, t1, t2, t3, nI_add, c1, d1, c2, d2, e1, f1, th, aR_1, k6, eq_self, if_true, nz, if_false]
theorem lb_reset (h : LLs L xs b K S P g mi ml mr) (hi : i + 4 ≤ L) (hL : L ≤ 2048) (hcd : code ≤ 2) (hw : WR code v E K' S' P' g mi ml mr (callT 12 mL_reset [.ref 2, .int (xs (i + 1)), .int (xs (i + 2)), .int (xs (i + 3)), .ref 297] (g, mi, ml, mr))) (hr : ∀ g mi ml mr, MG g mr → MS K S P mi ml → RC g mr mi ml (callT 12 mX5_reset [.ref 292, .int (xs (i + 1)), .int (xs (i + 2)), .int (xs (i + 3))] (g, mi, ml, mr)) code (.int v) K' S' P') : LLb 983 L xs i E K' S' P' b5 b6 g mi ml mr := by
  obtain ⟨hT, ⟨hg, hM⟩, ⟨s1, s2, s3⟩, o1, o2⟩ := h
  obtain ⟨g', mi', ml', mr', e1, e2, e3, e4⟩ := hw
  obtain ⟨hg', hM', ⟨t1, t2, t3⟩, o3, o4⟩ := e4.keep hg hM s1 s2 s3 o1 o2
  obtain ⟨mi2, ml2, f1, f2, f3, f4⟩ := hr g' mi' ml' mr' hg' hM'
  have th := thrown_ (d := 11) (mi := mi2) (ml := ml2) hg'
  rw [f2] at th
  have th : callT 12 mX5_thrown [.ref 292] (g', mi2, ml2, mr') = some (.inl (some (.int (nI code))), g', mi2, ml2, mr') := th
  have k6 := hg'.1
  have l3 := ls_out (v := v) e3 f4
  have ls := ls_end e2 hg' f3 f4 t1 t2 t3 o3 o4
  have c1 : i + 1 < L := by omega
  have d1 : i + 1 < 2147483648 := by omega
  have c2 : i + 2 < L := by omega
  have d2 : i + 2 < 2147483648 := by omega
  have c3 : i + 3 < L := by omega
  have d3 : i + 3 < 2147483648 := by omega
  refine ⟨.int (nI code), .int v, g', mi2, ml2, mr', ?_, ls⟩
  by_cases hc0 : code = 0
  · subst hc0
    have l4 := l3 rfl
    simp only [wL_law_983, wL_law_984, wL_law_985, wL_law_987, wL_law_988, wL_law_989, wL_law_989s, wL_law_990, wL_law_991, wL_law_993, wL_law_994, wL_law_995, wL_law_995s, wL_law_996, wL_law_997, wL_law_999, wL_law_1000, wL_law_1001, wL_law_1001s, wL_law_1002, wL_law_1003, wL_law_1006i, wL_law_1008, wL_law_1009, wL_law_1010, wL_law_1012, wL_law_1013, wL_law_1014, wL_law_1014s, wL_law_1015, wL_law_1016, wL_law_1018, wL_law_1019, wL_law_1020, wL_law_1020s, wL_law_1021, wL_law_1022, wL_law_1024, wL_law_1025, wL_law_1026, wL_law_1026s, wL_law_1027, wL_law_1030i, wL_law_1032, wL_law_1033, wL_law_1036, wL_law_1038, wL_law_1041, wL_law_1042, wL_law_1043, wL_law_1045, wL_law_1048, wL_law_1049, wL_law_1050, wL_law_1051, wL_law_1053, wL_law_1054, wL_law_1055, wL_law_1058, wL_law_1059, wL_law_1060, cs_0, cs_i, cs_r, s1, s2, s3, t1, t2, t3, nI_add, c1, d1, c2, d2, c3, d3, e1, f1, th, aR_1, k6, eq_self, if_true, o3, o4, l4, lg_self, Nat.reduceLT]
  · have nz : ¬ nI code = nI 0 := fun h9 => hc0 ((nI_eq (by omega) (by decide)).mp h9)
    simp only [wL_law_983, wL_law_984, wL_law_985, wL_law_987, wL_law_988, wL_law_989, wL_law_989s, wL_law_990, wL_law_991, wL_law_993, wL_law_994, wL_law_995, wL_law_995s, wL_law_996, wL_law_997, wL_law_999, wL_law_1000, wL_law_1001, wL_law_1001s, wL_law_1002, wL_law_1003, wL_law_1006i, wL_law_1008, wL_law_1009, wL_law_1010, wL_law_1012, wL_law_1013, wL_law_1014, wL_law_1014s, wL_law_1015, wL_law_1016, wL_law_1018, wL_law_1019, wL_law_1020, wL_law_1020s, wL_law_1021, wL_law_1022, wL_law_1024, wL_law_1025, wL_law_1026, wL_law_1026s, wL_law_1027, wL_law_1030i, wL_law_1032, wL_law_1033, wL_law_1036, wL_law_1038, wL_law_1041, wL_law_1042, wL_law_1043, wL_law_1045, wL_law_1048, wL_law_1049, wL_law_1050, wL_law_1051, wL_law_1053, wL_law_1054, wL_law_1055, wL_law_1058, wL_law_1059, wL_law_1060, cs_0, cs_i, cs_r, s1, s2, s3, t1, t2, t3, nI_add, c1, d1, c2, d2, c3, d3, e1, f1, th, aR_1, k6, eq_self, if_true, nz, if_false]
theorem lb_tick (h : LLs L xs b K S P g mi ml mr) (hi : i + 4 ≤ L) (hL : L ≤ 2048) (hcd : code ≤ 2) (hw : WR code v E K' S' P' g mi ml mr (callT 12 mL_tick [.ref 2, .int (xs (i + 1)), .ref 297] (g, mi, ml, mr))) (hr : ∀ g mi ml mr, MG g mr → MS K S P mi ml → RC g mr mi ml (callT 12 mX5_tick [.ref 292, .int (xs (i + 1))] (g, mi, ml, mr)) code (.int v) K' S' P') : LLb 1063 L xs i E K' S' P' b5 b6 g mi ml mr := by
  obtain ⟨hT, ⟨hg, hM⟩, ⟨s1, s2, s3⟩, o1, o2⟩ := h
  obtain ⟨g', mi', ml', mr', e1, e2, e3, e4⟩ := hw
  obtain ⟨hg', hM', ⟨t1, t2, t3⟩, o3, o4⟩ := e4.keep hg hM s1 s2 s3 o1 o2
  obtain ⟨mi2, ml2, f1, f2, f3, f4⟩ := hr g' mi' ml' mr' hg' hM'
  have th := thrown_ (d := 11) (mi := mi2) (ml := ml2) hg'
  rw [f2] at th
  have th : callT 12 mX5_thrown [.ref 292] (g', mi2, ml2, mr') = some (.inl (some (.int (nI code))), g', mi2, ml2, mr') := th
  have k6 := hg'.1
  have l3 := ls_out (v := v) e3 f4
  have ls := ls_end e2 hg' f3 f4 t1 t2 t3 o3 o4
  have c1 : i + 1 < L := by omega
  have d1 : i + 1 < 2147483648 := by omega
  refine ⟨.int (nI code), .int v, g', mi2, ml2, mr', ?_, ls⟩
  by_cases hc0 : code = 0
  · subst hc0
    have l4 := l3 rfl
    simp only [wL_law_1063, wL_law_1064, wL_law_1065, wL_law_1067, wL_law_1068, wL_law_1069, wL_law_1069s, wL_law_1070, wL_law_1071, wL_law_1074i, wL_law_1076, wL_law_1077, wL_law_1078, wL_law_1080, wL_law_1081, wL_law_1082, wL_law_1082s, wL_law_1083, wL_law_1086i, wL_law_1088, wL_law_1089, wL_law_1092, wL_law_1094, wL_law_1097, wL_law_1098, wL_law_1099, wL_law_1101, wL_law_1104, wL_law_1105, wL_law_1106, wL_law_1107, wL_law_1109, wL_law_1110, wL_law_1111, wL_law_1114, wL_law_1115, wL_law_1116, cs_0, cs_i, cs_r, s1, s2, s3, t1, t2, t3, nI_add, c1, d1, e1, f1, th, aR_1, k6, eq_self, if_true, o3, o4, l4, lg_self, Nat.reduceLT]
  · have nz : ¬ nI code = nI 0 := fun h9 => hc0 ((nI_eq (by omega) (by decide)).mp h9)
    simp only [wL_law_1063, wL_law_1064, wL_law_1065, wL_law_1067, wL_law_1068, wL_law_1069, wL_law_1069s, wL_law_1070, wL_law_1071, wL_law_1074i, wL_law_1076, wL_law_1077, wL_law_1078, wL_law_1080, wL_law_1081, wL_law_1082, wL_law_1082s, wL_law_1083, wL_law_1086i, wL_law_1088, wL_law_1089, wL_law_1092, wL_law_1094, wL_law_1097, wL_law_1098, wL_law_1099, wL_law_1101, wL_law_1104, wL_law_1105, wL_law_1106, wL_law_1107, wL_law_1109, wL_law_1110, wL_law_1111, wL_law_1114, wL_law_1115, wL_law_1116, cs_0, cs_i, cs_r, s1, s2, s3, t1, t2, t3, nI_add, c1, d1, e1, f1, th, aR_1, k6, eq_self, if_true, nz, if_false]
theorem lb_end (h : LLs L xs b K S P g mi ml mr) (hi : i + 4 ≤ L) (hL : L ≤ 2048) (hcd : code ≤ 2) (hw : WR code v E K' S' P' g mi ml mr (callT 12 mL_end [.ref 2, .int (xs (i + 1)), .int (xs (i + 2)), .int (xs (i + 3)), .ref 297] (g, mi, ml, mr))) (hr : ∀ g mi ml mr, MG g mr → MS K S P mi ml → RC g mr mi ml (callT 12 mX5_end [.ref 292, .int (xs (i + 1)), .int (xs (i + 2)), .int (xs (i + 3))] (g, mi, ml, mr)) code (.int v) K' S' P') : LLb 1132 L xs i E K' S' P' b5 b6 g mi ml mr := by
  obtain ⟨hT, ⟨hg, hM⟩, ⟨s1, s2, s3⟩, o1, o2⟩ := h
  obtain ⟨g', mi', ml', mr', e1, e2, e3, e4⟩ := hw
  obtain ⟨hg', hM', ⟨t1, t2, t3⟩, o3, o4⟩ := e4.keep hg hM s1 s2 s3 o1 o2
  obtain ⟨mi2, ml2, f1, f2, f3, f4⟩ := hr g' mi' ml' mr' hg' hM'
  have th := thrown_ (d := 11) (mi := mi2) (ml := ml2) hg'
  rw [f2] at th
  have th : callT 12 mX5_thrown [.ref 292] (g', mi2, ml2, mr') = some (.inl (some (.int (nI code))), g', mi2, ml2, mr') := th
  have k6 := hg'.1
  have l3 := ls_out (v := v) e3 f4
  have ls := ls_end e2 hg' f3 f4 t1 t2 t3 o3 o4
  have c1 : i + 1 < L := by omega
  have d1 : i + 1 < 2147483648 := by omega
  have c2 : i + 2 < L := by omega
  have d2 : i + 2 < 2147483648 := by omega
  have c3 : i + 3 < L := by omega
  have d3 : i + 3 < 2147483648 := by omega
  refine ⟨.int (nI code), .int v, g', mi2, ml2, mr', ?_, ls⟩
  by_cases hc0 : code = 0
  · subst hc0
    have l4 := l3 rfl
    simp only [wL_law_1132, wL_law_1133, wL_law_1134, wL_law_1136, wL_law_1137, wL_law_1138, wL_law_1138s, wL_law_1139, wL_law_1140, wL_law_1142, wL_law_1143, wL_law_1144, wL_law_1144s, wL_law_1145, wL_law_1146, wL_law_1148, wL_law_1149, wL_law_1150, wL_law_1150s, wL_law_1151, wL_law_1152, wL_law_1155i, wL_law_1157, wL_law_1158, wL_law_1159, wL_law_1161, wL_law_1162, wL_law_1163, wL_law_1163s, wL_law_1164, wL_law_1165, wL_law_1167, wL_law_1168, wL_law_1169, wL_law_1169s, wL_law_1170, wL_law_1171, wL_law_1173, wL_law_1174, wL_law_1175, wL_law_1175s, wL_law_1176, wL_law_1179i, wL_law_1181, wL_law_1182, wL_law_1185, wL_law_1187, wL_law_1190, wL_law_1191, wL_law_1192, wL_law_1194, wL_law_1197, wL_law_1198, wL_law_1199, wL_law_1200, wL_law_1202, wL_law_1203, wL_law_1204, wL_law_1207, wL_law_1208, wL_law_1209, cs_0, cs_i, cs_r, s1, s2, s3, t1, t2, t3, nI_add, c1, d1, c2, d2, c3, d3, e1, f1, th, aR_1, k6, eq_self, if_true, o3, o4, l4, lg_self, Nat.reduceLT]
  · have nz : ¬ nI code = nI 0 := fun h9 => hc0 ((nI_eq (by omega) (by decide)).mp h9)
    simp only [wL_law_1132, wL_law_1133, wL_law_1134, wL_law_1136, wL_law_1137, wL_law_1138, wL_law_1138s, wL_law_1139, wL_law_1140, wL_law_1142, wL_law_1143, wL_law_1144, wL_law_1144s, wL_law_1145, wL_law_1146, wL_law_1148, wL_law_1149, wL_law_1150, wL_law_1150s, wL_law_1151, wL_law_1152, wL_law_1155i, wL_law_1157, wL_law_1158, wL_law_1159, wL_law_1161, wL_law_1162, wL_law_1163, wL_law_1163s, wL_law_1164, wL_law_1165, wL_law_1167, wL_law_1168, wL_law_1169, wL_law_1169s, wL_law_1170, wL_law_1171, wL_law_1173, wL_law_1174, wL_law_1175, wL_law_1175s, wL_law_1176, wL_law_1179i, wL_law_1181, wL_law_1182, wL_law_1185, wL_law_1187, wL_law_1190, wL_law_1191, wL_law_1192, wL_law_1194, wL_law_1197, wL_law_1198, wL_law_1199, wL_law_1200, wL_law_1202, wL_law_1203, wL_law_1204, wL_law_1207, wL_law_1208, wL_law_1209, cs_0, cs_i, cs_r, s1, s2, s3, t1, t2, t3, nI_add, c1, d1, c2, d2, c3, d3, e1, f1, th, aR_1, k6, eq_self, if_true, nz, if_false]
theorem lb_callValue (h : LLs L xs b K S P g mi ml mr) (hi : i + 4 ≤ L) (hL : L ≤ 2048) (hcd : code ≤ 2) (hw : WR code v E K' S' P' g mi ml mr (callT 12 mL_callValue [.ref 2, .int (xs (i + 1)), .int (xs (i + 2)), .ref 297] (g, mi, ml, mr))) (hr : ∀ g mi ml mr, MG g mr → MS K S P mi ml → RC g mr mi ml (callT 12 mX5_callValue [.ref 292, .int (xs (i + 1)), .int (xs (i + 2))] (g, mi, ml, mr)) code (.int v) K' S' P') : LLb 1225 L xs i E K' S' P' b5 b6 g mi ml mr := by
  obtain ⟨hT, ⟨hg, hM⟩, ⟨s1, s2, s3⟩, o1, o2⟩ := h
  obtain ⟨g', mi', ml', mr', e1, e2, e3, e4⟩ := hw
  obtain ⟨hg', hM', ⟨t1, t2, t3⟩, o3, o4⟩ := e4.keep hg hM s1 s2 s3 o1 o2
  obtain ⟨mi2, ml2, f1, f2, f3, f4⟩ := hr g' mi' ml' mr' hg' hM'
  have th := thrown_ (d := 11) (mi := mi2) (ml := ml2) hg'
  rw [f2] at th
  have th : callT 12 mX5_thrown [.ref 292] (g', mi2, ml2, mr') = some (.inl (some (.int (nI code))), g', mi2, ml2, mr') := th
  have k6 := hg'.1
  have l3 := ls_out (v := v) e3 f4
  have ls := ls_end e2 hg' f3 f4 t1 t2 t3 o3 o4
  have c1 : i + 1 < L := by omega
  have d1 : i + 1 < 2147483648 := by omega
  have c2 : i + 2 < L := by omega
  have d2 : i + 2 < 2147483648 := by omega
  refine ⟨.int (nI code), .int v, g', mi2, ml2, mr', ?_, ls⟩
  by_cases hc0 : code = 0
  · subst hc0
    have l4 := l3 rfl
    simp only [wL_law_1225, wL_law_1226, wL_law_1227, wL_law_1229, wL_law_1230, wL_law_1231, wL_law_1231s, wL_law_1232, wL_law_1233, wL_law_1235, wL_law_1236, wL_law_1237, wL_law_1237s, wL_law_1238, wL_law_1239, wL_law_1242i, wL_law_1244, wL_law_1245, wL_law_1246, wL_law_1248, wL_law_1249, wL_law_1250, wL_law_1250s, wL_law_1251, wL_law_1252, wL_law_1254, wL_law_1255, wL_law_1256, wL_law_1256s, wL_law_1257, wL_law_1260i, wL_law_1262, wL_law_1263, wL_law_1266, wL_law_1268, wL_law_1271, wL_law_1272, wL_law_1273, wL_law_1275, wL_law_1278, wL_law_1279, wL_law_1280, wL_law_1281, wL_law_1283, wL_law_1284, wL_law_1285, wL_law_1288, wL_law_1289, wL_law_1290, cs_0, cs_i, cs_r, s1, s2, s3, t1, t2, t3, nI_add, c1, d1, c2, d2, e1, f1, th, aR_1, k6, eq_self, if_true, o3, o4, l4, lg_self, Nat.reduceLT]
  · have nz : ¬ nI code = nI 0 := fun h9 => hc0 ((nI_eq (by omega) (by decide)).mp h9)
    simp only [wL_law_1225, wL_law_1226, wL_law_1227, wL_law_1229, wL_law_1230, wL_law_1231, wL_law_1231s, wL_law_1232, wL_law_1233, wL_law_1235, wL_law_1236, wL_law_1237, wL_law_1237s, wL_law_1238, wL_law_1239, wL_law_1242i, wL_law_1244, wL_law_1245, wL_law_1246, wL_law_1248, wL_law_1249, wL_law_1250, wL_law_1250s, wL_law_1251, wL_law_1252, wL_law_1254, wL_law_1255, wL_law_1256, wL_law_1256s, wL_law_1257, wL_law_1260i, wL_law_1262, wL_law_1263, wL_law_1266, wL_law_1268, wL_law_1271, wL_law_1272, wL_law_1273, wL_law_1275, wL_law_1278, wL_law_1279, wL_law_1280, wL_law_1281, wL_law_1283, wL_law_1284, wL_law_1285, wL_law_1288, wL_law_1289, wL_law_1290, cs_0, cs_i, cs_r, s1, s2, s3, t1, t2, t3, nI_add, c1, d1, c2, d2, e1, f1, th, aR_1, k6, eq_self, if_true, nz, if_false]
theorem lb_message (h : LLs L xs b K S P g mi ml mr) (hi : i + 4 ≤ L) (hL : L ≤ 2048) (hcd : code ≤ 2) (hw : WR code v E K' S' P' g mi ml mr (callT 12 mL_message [.ref 2, .int (xs (i + 1)), .int (xs (i + 2)), .ref 297] (g, mi, ml, mr))) (hr : ∀ g mi ml mr, MG g mr → MS K S P mi ml → RC g mr mi ml (callT 12 mX5_message [.ref 292, .int (xs (i + 1)), .int (xs (i + 2))] (g, mi, ml, mr)) code (.int v) K' S' P') : LLb 1306 L xs i E K' S' P' b5 b6 g mi ml mr := by
  obtain ⟨hT, ⟨hg, hM⟩, ⟨s1, s2, s3⟩, o1, o2⟩ := h
  obtain ⟨g', mi', ml', mr', e1, e2, e3, e4⟩ := hw
  obtain ⟨hg', hM', ⟨t1, t2, t3⟩, o3, o4⟩ := e4.keep hg hM s1 s2 s3 o1 o2
  obtain ⟨mi2, ml2, f1, f2, f3, f4⟩ := hr g' mi' ml' mr' hg' hM'
  have th := thrown_ (d := 11) (mi := mi2) (ml := ml2) hg'
  rw [f2] at th
  have th : callT 12 mX5_thrown [.ref 292] (g', mi2, ml2, mr') = some (.inl (some (.int (nI code))), g', mi2, ml2, mr') := th
  have k6 := hg'.1
  have l3 := ls_out (v := v) e3 f4
  have ls := ls_end e2 hg' f3 f4 t1 t2 t3 o3 o4
  have c1 : i + 1 < L := by omega
  have d1 : i + 1 < 2147483648 := by omega
  have c2 : i + 2 < L := by omega
  have d2 : i + 2 < 2147483648 := by omega
  refine ⟨.int (nI code), .int v, g', mi2, ml2, mr', ?_, ls⟩
  by_cases hc0 : code = 0
  · subst hc0
    have l4 := l3 rfl
    simp only [wL_law_1306, wL_law_1307, wL_law_1308, wL_law_1310, wL_law_1311, wL_law_1312, wL_law_1312s, wL_law_1313, wL_law_1314, wL_law_1316, wL_law_1317, wL_law_1318, wL_law_1318s, wL_law_1319, wL_law_1320, wL_law_1323i, wL_law_1325, wL_law_1326, wL_law_1327, wL_law_1329, wL_law_1330, wL_law_1331, wL_law_1331s, wL_law_1332, wL_law_1333, wL_law_1335, wL_law_1336, wL_law_1337, wL_law_1337s, wL_law_1338, wL_law_1341i, wL_law_1343, wL_law_1344, wL_law_1347, wL_law_1349, wL_law_1352, wL_law_1353, wL_law_1354, wL_law_1356, wL_law_1359, wL_law_1360, wL_law_1361, wL_law_1362, wL_law_1364, wL_law_1365, wL_law_1366, wL_law_1369, wL_law_1370, wL_law_1371, cs_0, cs_i, cs_r, s1, s2, s3, t1, t2, t3, nI_add, c1, d1, c2, d2, e1, f1, th, aR_1, k6, eq_self, if_true, o3, o4, l4, lg_self, Nat.reduceLT]
  · have nz : ¬ nI code = nI 0 := fun h9 => hc0 ((nI_eq (by omega) (by decide)).mp h9)
    simp only [wL_law_1306, wL_law_1307, wL_law_1308, wL_law_1310, wL_law_1311, wL_law_1312, wL_law_1312s, wL_law_1313, wL_law_1314, wL_law_1316, wL_law_1317, wL_law_1318, wL_law_1318s, wL_law_1319, wL_law_1320, wL_law_1323i, wL_law_1325, wL_law_1326, wL_law_1327, wL_law_1329, wL_law_1330, wL_law_1331, wL_law_1331s, wL_law_1332, wL_law_1333, wL_law_1335, wL_law_1336, wL_law_1337, wL_law_1337s, wL_law_1338, wL_law_1341i, wL_law_1343, wL_law_1344, wL_law_1347, wL_law_1349, wL_law_1352, wL_law_1353, wL_law_1354, wL_law_1356, wL_law_1359, wL_law_1360, wL_law_1361, wL_law_1362, wL_law_1364, wL_law_1365, wL_law_1366, wL_law_1369, wL_law_1370, wL_law_1371, cs_0, cs_i, cs_r, s1, s2, s3, t1, t2, t3, nI_add, c1, d1, c2, d2, e1, f1, th, aR_1, k6, eq_self, if_true, nz, if_false]
theorem lb_choice (h : LLs L xs b K S P g mi ml mr) (hi : i + 4 ≤ L) (hL : L ≤ 2048) (hcd : code ≤ 2) (hw : WR code v E K' S' P' g mi ml mr (callT 12 mL_choice [.ref 2, .int (xs (i + 1)), .ref 297] (g, mi, ml, mr))) (hr : ∀ g mi ml mr, MG g mr → MS K S P mi ml → RC g mr mi ml (callT 12 mX5_choice [.ref 292, .int (xs (i + 1))] (g, mi, ml, mr)) code (.int v) K' S' P') : LLb 1374 L xs i E K' S' P' b5 b6 g mi ml mr := by
  obtain ⟨hT, ⟨hg, hM⟩, ⟨s1, s2, s3⟩, o1, o2⟩ := h
  obtain ⟨g', mi', ml', mr', e1, e2, e3, e4⟩ := hw
  obtain ⟨hg', hM', ⟨t1, t2, t3⟩, o3, o4⟩ := e4.keep hg hM s1 s2 s3 o1 o2
  obtain ⟨mi2, ml2, f1, f2, f3, f4⟩ := hr g' mi' ml' mr' hg' hM'
  have th := thrown_ (d := 11) (mi := mi2) (ml := ml2) hg'
  rw [f2] at th
  have th : callT 12 mX5_thrown [.ref 292] (g', mi2, ml2, mr') = some (.inl (some (.int (nI code))), g', mi2, ml2, mr') := th
  have k6 := hg'.1
  have l3 := ls_out (v := v) e3 f4
  have ls := ls_end e2 hg' f3 f4 t1 t2 t3 o3 o4
  have c1 : i + 1 < L := by omega
  have d1 : i + 1 < 2147483648 := by omega
  refine ⟨.int (nI code), .int v, g', mi2, ml2, mr', ?_, ls⟩
  by_cases hc0 : code = 0
  · subst hc0
    have l4 := l3 rfl
    simp only [wL_law_1374, wL_law_1375, wL_law_1376, wL_law_1378, wL_law_1379, wL_law_1380, wL_law_1380s, wL_law_1381, wL_law_1382, wL_law_1385i, wL_law_1387, wL_law_1388, wL_law_1389, wL_law_1391, wL_law_1392, wL_law_1393, wL_law_1393s, wL_law_1394, wL_law_1397i, wL_law_1399, wL_law_1400, wL_law_1403, wL_law_1405, wL_law_1408, wL_law_1409, wL_law_1410, wL_law_1412, wL_law_1415, wL_law_1416, wL_law_1417, wL_law_1418, wL_law_1420, wL_law_1421, wL_law_1422, wL_law_1425, wL_law_1426, wL_law_1427, cs_0, cs_i, cs_r, s1, s2, s3, t1, t2, t3, nI_add, c1, d1, e1, f1, th, aR_1, k6, eq_self, if_true, o3, o4, l4, lg_self, Nat.reduceLT]
  · have nz : ¬ nI code = nI 0 := fun h9 => hc0 ((nI_eq (by omega) (by decide)).mp h9)
    simp only [wL_law_1374, wL_law_1375, wL_law_1376, wL_law_1378, wL_law_1379, wL_law_1380, wL_law_1380s, wL_law_1381, wL_law_1382, wL_law_1385i, wL_law_1387, wL_law_1388, wL_law_1389, wL_law_1391, wL_law_1392, wL_law_1393, wL_law_1393s, wL_law_1394, wL_law_1397i, wL_law_1399, wL_law_1400, wL_law_1403, wL_law_1405, wL_law_1408, wL_law_1409, wL_law_1410, wL_law_1412, wL_law_1415, wL_law_1416, wL_law_1417, wL_law_1418, wL_law_1420, wL_law_1421, wL_law_1422, wL_law_1425, wL_law_1426, wL_law_1427, cs_0, cs_i, cs_r, s1, s2, s3, t1, t2, t3, nI_add, c1, d1, e1, f1, th, aR_1, k6, eq_self, if_true, nz, if_false]
theorem lb_count (h : LLs L xs b K S P g mi ml mr) (hi : i + 4 ≤ L) (hL : L ≤ 2048) (hcd : code ≤ 2) (hw : WR code v E K' S' P' g mi ml mr (callT 12 mL_count [.ref 2, .int (xs (i + 1)), .ref 297] (g, mi, ml, mr))) (hr : ∀ g mi ml mr, MG g mr → MS K S P mi ml → RC g mr mi ml (callT 12 mX5_count [.ref 292, .int (xs (i + 1))] (g, mi, ml, mr)) code (.int v) K' S' P') : LLb 1430 L xs i E K' S' P' b5 b6 g mi ml mr := by
  obtain ⟨hT, ⟨hg, hM⟩, ⟨s1, s2, s3⟩, o1, o2⟩ := h
  obtain ⟨g', mi', ml', mr', e1, e2, e3, e4⟩ := hw
  obtain ⟨hg', hM', ⟨t1, t2, t3⟩, o3, o4⟩ := e4.keep hg hM s1 s2 s3 o1 o2
  obtain ⟨mi2, ml2, f1, f2, f3, f4⟩ := hr g' mi' ml' mr' hg' hM'
  have th := thrown_ (d := 11) (mi := mi2) (ml := ml2) hg'
  rw [f2] at th
  have th : callT 12 mX5_thrown [.ref 292] (g', mi2, ml2, mr') = some (.inl (some (.int (nI code))), g', mi2, ml2, mr') := th
  have k6 := hg'.1
  have l3 := ls_out (v := v) e3 f4
  have ls := ls_end e2 hg' f3 f4 t1 t2 t3 o3 o4
  have c1 : i + 1 < L := by omega
  have d1 : i + 1 < 2147483648 := by omega
  refine ⟨.int (nI code), .int v, g', mi2, ml2, mr', ?_, ls⟩
  by_cases hc0 : code = 0
  · subst hc0
    have l4 := l3 rfl
    simp only [wL_law_1430, wL_law_1431, wL_law_1432, wL_law_1434, wL_law_1435, wL_law_1436, wL_law_1436s, wL_law_1437, wL_law_1438, wL_law_1441i, wL_law_1443, wL_law_1444, wL_law_1445, wL_law_1447, wL_law_1448, wL_law_1449, wL_law_1449s, wL_law_1450, wL_law_1453i, wL_law_1455, wL_law_1456, wL_law_1459, wL_law_1461, wL_law_1464, wL_law_1465, wL_law_1466, wL_law_1468, wL_law_1471, wL_law_1472, wL_law_1473, wL_law_1474, wL_law_1476, wL_law_1477, wL_law_1478, wL_law_1481, wL_law_1482, wL_law_1483, cs_0, cs_i, cs_r, s1, s2, s3, t1, t2, t3, nI_add, c1, d1, e1, f1, th, aR_1, k6, eq_self, if_true, o3, o4, l4, lg_self, Nat.reduceLT]
  · have nz : ¬ nI code = nI 0 := fun h9 => hc0 ((nI_eq (by omega) (by decide)).mp h9)
    simp only [wL_law_1430, wL_law_1431, wL_law_1432, wL_law_1434, wL_law_1435, wL_law_1436, wL_law_1436s, wL_law_1437, wL_law_1438, wL_law_1441i, wL_law_1443, wL_law_1444, wL_law_1445, wL_law_1447, wL_law_1448, wL_law_1449, wL_law_1449s, wL_law_1450, wL_law_1453i, wL_law_1455, wL_law_1456, wL_law_1459, wL_law_1461, wL_law_1464, wL_law_1465, wL_law_1466, wL_law_1468, wL_law_1471, wL_law_1472, wL_law_1473, wL_law_1474, wL_law_1476, wL_law_1477, wL_law_1478, wL_law_1481, wL_law_1482, wL_law_1483, cs_0, cs_i, cs_r, s1, s2, s3, t1, t2, t3, nI_add, c1, d1, e1, f1, th, aR_1, k6, eq_self, if_true, nz, if_false]
theorem lb_total (h : LLs L xs b K S P g mi ml mr) (hi : i + 4 ≤ L) (hL : L ≤ 2048) (hcd : code ≤ 2) (hw : WR code v E K' S' P' g mi ml mr (callT 12 mL_total [.ref 2, .int (xs (i + 1)), .ref 297] (g, mi, ml, mr))) (hr : ∀ g mi ml mr, MG g mr → MS K S P mi ml → RC g mr mi ml (callT 12 mX5_total [.ref 292, .int (xs (i + 1))] (g, mi, ml, mr)) code (.int v) K' S' P') : LLb 1486 L xs i E K' S' P' b5 b6 g mi ml mr := by
  obtain ⟨hT, ⟨hg, hM⟩, ⟨s1, s2, s3⟩, o1, o2⟩ := h
  obtain ⟨g', mi', ml', mr', e1, e2, e3, e4⟩ := hw
  obtain ⟨hg', hM', ⟨t1, t2, t3⟩, o3, o4⟩ := e4.keep hg hM s1 s2 s3 o1 o2
  obtain ⟨mi2, ml2, f1, f2, f3, f4⟩ := hr g' mi' ml' mr' hg' hM'
  have th := thrown_ (d := 11) (mi := mi2) (ml := ml2) hg'
  rw [f2] at th
  have th : callT 12 mX5_thrown [.ref 292] (g', mi2, ml2, mr') = some (.inl (some (.int (nI code))), g', mi2, ml2, mr') := th
  have k6 := hg'.1
  have l3 := ls_out (v := v) e3 f4
  have ls := ls_end e2 hg' f3 f4 t1 t2 t3 o3 o4
  have c1 : i + 1 < L := by omega
  have d1 : i + 1 < 2147483648 := by omega
  refine ⟨.int (nI code), .int v, g', mi2, ml2, mr', ?_, ls⟩
  by_cases hc0 : code = 0
  · subst hc0
    have l4 := l3 rfl
    simp only [wL_law_1486, wL_law_1487, wL_law_1488, wL_law_1490, wL_law_1491, wL_law_1492, wL_law_1492s, wL_law_1493, wL_law_1494, wL_law_1497i, wL_law_1499, wL_law_1500, wL_law_1501, wL_law_1503, wL_law_1504, wL_law_1505, wL_law_1505s, wL_law_1506, wL_law_1509i, wL_law_1511, wL_law_1512, wL_law_1515, wL_law_1517, wL_law_1520, wL_law_1521, wL_law_1522, wL_law_1524, wL_law_1527, wL_law_1528, wL_law_1529, wL_law_1530, wL_law_1532, wL_law_1533, wL_law_1534, wL_law_1537, wL_law_1538, wL_law_1539, cs_0, cs_i, cs_r, s1, s2, s3, t1, t2, t3, nI_add, c1, d1, e1, f1, th, aR_1, k6, eq_self, if_true, o3, o4, l4, lg_self, Nat.reduceLT]
  · have nz : ¬ nI code = nI 0 := fun h9 => hc0 ((nI_eq (by omega) (by decide)).mp h9)
    simp only [wL_law_1486, wL_law_1487, wL_law_1488, wL_law_1490, wL_law_1491, wL_law_1492, wL_law_1492s, wL_law_1493, wL_law_1494, wL_law_1497i, wL_law_1499, wL_law_1500, wL_law_1501, wL_law_1503, wL_law_1504, wL_law_1505, wL_law_1505s, wL_law_1506, wL_law_1509i, wL_law_1511, wL_law_1512, wL_law_1515, wL_law_1517, wL_law_1520, wL_law_1521, wL_law_1522, wL_law_1524, wL_law_1527, wL_law_1528, wL_law_1529, wL_law_1530, wL_law_1532, wL_law_1533, wL_law_1534, wL_law_1537, wL_law_1538, wL_law_1539, cs_0, cs_i, cs_r, s1, s2, s3, t1, t2, t3, nI_add, c1, d1, e1, f1, th, aR_1, k6, eq_self, if_true, nz, if_false]
theorem lb_undo (h : LLs L xs b K S P g mi ml mr) (hi : i + 4 ≤ L) (hL : L ≤ 2048) (hcd : code ≤ 2) (hw : WR code v E K' S' P' g mi ml mr (callT 12 mL_undo [.ref 2, .ref 297] (g, mi, ml, mr))) (hr : ∀ g mi ml mr, MG g mr → MS K S P mi ml → RC g mr mi ml (callT 12 mX5_undo [.ref 292] (g, mi, ml, mr)) code (.int v) K' S' P') : LLb 1542 L xs i E K' S' P' b5 b6 g mi ml mr := by
  obtain ⟨hT, ⟨hg, hM⟩, ⟨s1, s2, s3⟩, o1, o2⟩ := h
  obtain ⟨g', mi', ml', mr', e1, e2, e3, e4⟩ := hw
  obtain ⟨hg', hM', ⟨t1, t2, t3⟩, o3, o4⟩ := e4.keep hg hM s1 s2 s3 o1 o2
  obtain ⟨mi2, ml2, f1, f2, f3, f4⟩ := hr g' mi' ml' mr' hg' hM'
  have th := thrown_ (d := 11) (mi := mi2) (ml := ml2) hg'
  rw [f2] at th
  have th : callT 12 mX5_thrown [.ref 292] (g', mi2, ml2, mr') = some (.inl (some (.int (nI code))), g', mi2, ml2, mr') := th
  have k6 := hg'.1
  have l3 := ls_out (v := v) e3 f4
  have ls := ls_end e2 hg' f3 f4 t1 t2 t3 o3 o4
  refine ⟨.int (nI code), .int v, g', mi2, ml2, mr', ?_, ls⟩
  by_cases hc0 : code = 0
  · subst hc0
    have l4 := l3 rfl
    simp only [wL_law_1542, wL_law_1543, wL_law_1544, wL_law_1547i, wL_law_1549, wL_law_1550, wL_law_1553i, wL_law_1555, wL_law_1556, wL_law_1559, wL_law_1561, wL_law_1564, wL_law_1565, wL_law_1566, wL_law_1568, wL_law_1571, wL_law_1572, wL_law_1573, wL_law_1574, wL_law_1576, wL_law_1577, wL_law_1578, wL_law_1581, wL_law_1582, wL_law_1583, cs_0, cs_i, cs_r, e1, f1, th, aR_1, k6, eq_self, if_true, o3, o4, l4, lg_self, Nat.reduceLT]
  · have nz : ¬ nI code = nI 0 := fun h9 => hc0 ((nI_eq (by omega) (by decide)).mp h9)
    simp only [wL_law_1542, wL_law_1543, wL_law_1544, wL_law_1547i, wL_law_1549, wL_law_1550, wL_law_1553i, wL_law_1555, wL_law_1556, wL_law_1559, wL_law_1561, wL_law_1564, wL_law_1565, wL_law_1566, wL_law_1568, wL_law_1571, wL_law_1572, wL_law_1573, wL_law_1574, wL_law_1576, wL_law_1577, wL_law_1578, wL_law_1581, wL_law_1582, wL_law_1583, cs_0, cs_i, cs_r, e1, f1, th, aR_1, k6, eq_self, if_true, nz, if_false]
end LBLK
