/-! THE LAW -/
theorem LI_0 {w : gH} {n k : Nat} (h : LI w n k) : gisO 5 (w 0) = true := by
  obtain ⟨nw, ps, d, im, ik, tv, l, S, Fk, Fx, Fb, hC, hM⟩ := h
  rw [hC.1]
  rfl
theorem LI_nk {w : gH} {n k : Nat} (h : LI w n k) : n ≤ 68 ∧ k ≤ 100000 := by
  obtain ⟨nw, ps, d, im, ik, tv, l, S, Fk, Fx, Fb, hC, hM⟩ := h
  obtain ⟨_, _, ⟨nx, rg, ig, _, _, _, _, _, ⟨s1, s2, _⟩, _⟩, _⟩ := hC
  omega
theorem nI_bv (x : Int32) : x = nI x.toBitVec.toNat := by
  rw [← Int32.toBitVec_inj]
  show x.toBitVec = BitVec.ofNat 32 x.toBitVec.toNat
  rw [BitVec.ofNat_toNat, BitVec.setWidth_eq]
theorem and_31 (x : Int32) : ∃ m, m < 32 ∧ x &&& 31 = nI m := by
  refine ⟨x.toBitVec.toNat % 2 ^ 5, Nat.mod_lt _ (by decide), ?_⟩
  have h := nI_and x.toBitVec.toNat (2 ^ 5 - 1)
  rw [← nI_bv, Nat.and_two_pow_sub_one_eq_mod] at h
  exact h
section LC
variable {X : gX} {w : gH} {n k i : Nat} {Q : Option Value → Nat → Nat → gH → Prop}
theorem lw_type (hX : X.1 ≤ 2560) (hi : i + 5 ≤ X.1) (hL : LI w n k) (hN : ∀ w n k, LI w n k → gEv (gT X) 8 796 [.retAddr 0, .ref 0, .ref 24, .int (nI i)] [] n k w Q) : gEv (gT X) 8 144 [.retAddr 0, .ref 0, .ref 24, .int (nI i)] [] n k w Q := by
  have g0 := LI_0 hL
  have v1 : vp_in (nI (i + 1)) X.1 := vp_in_nI (by omega) (by omega)
  simp only [eL_law_144, eL_law_145, eL_law_146, eL_law_147, eL_law_148, eL_law_149, eL_law_150, Option.toList_some, Option.toList_none, List.cons_append, List.nil_append, gcat_nil, gcat_cons, cat_int, cat_ref, cat_null, cat_ret, cat_long, grc_ref, narZ0, narZ1, true_and, and_true, decide_true, Nat.reduceAdd, Nat.reduceLeDiff, if_true, if_false, eq_self, gfld_in, gobj_in, garr_in, garq_in, glen_in, gisO_in, ex_some, List.getElem?_cons_succ, List.getElem?_cons_zero, List.length_cons, List.length_nil, List.set_cons_succ, List.set_cons_zero, Nat.reduceLT, va_up_eq, va_up_nl, g0, nI_1, v1, nI_clamp (show i + 1 < 2 ^ 31 by omega)]
  refine gEv.mono (s_type hL) ?_
  rintro v n1 k1 w1 ⟨r, rfl, h6, h2⟩
  simp only [eL_law_153, eL_law_154, eL_law_155, eL_law_156, eL_law_157, eL_law_158, eL_law_159, Option.toList_some, Option.toList_none, List.cons_append, List.nil_append, gcat_nil, gcat_cons, cat_int, cat_ref, cat_null, cat_ret, cat_long, grc_ref, narZ0, narZ1, true_and, and_true, decide_true, Nat.reduceAdd, Nat.reduceLeDiff, if_true, if_false, eq_self, gfld_in, gobj_in, garr_in, garq_in, glen_in, gisO_in, ex_some, List.getElem?_cons_succ, List.getElem?_cons_zero, List.length_cons, List.length_nil, List.set_cons_succ, List.set_cons_zero, Nat.reduceLT, va_up_eq, va_up_nl, h6, nI_1, v1, nI_clamp (show i + 1 < 2 ^ 31 by omega)]
  refine gEv.mono h2 ?_
  rintro v2 n2 k2 w2 ⟨rfl, hL2⟩
  simp only [eL_law_162, Option.toList_some, Option.toList_none, List.cons_append, List.nil_append, gcat_nil, gcat_cons, cat_int, cat_ref, cat_null, cat_ret, cat_long, grc_ref, narZ0, narZ1, true_and, and_true, decide_true, Nat.reduceAdd, Nat.reduceLeDiff, if_true, if_false, eq_self, gfld_in, gobj_in, garr_in, garq_in, glen_in, gisO_in, ex_some, List.getElem?_cons_succ, List.getElem?_cons_zero, List.length_cons, List.length_nil, List.set_cons_succ, List.set_cons_zero, Nat.reduceLT, va_up_eq, va_up_nl]
  exact hN _ _ _ hL2
theorem lw_clear (hX : X.1 ≤ 2560) (hi : i + 5 ≤ X.1) (hL : LI w n k) (hN : ∀ w n k, LI w n k → gEv (gT X) 8 796 [.retAddr 0, .ref 0, .ref 24, .int (nI i)] [] n k w Q) : gEv (gT X) 8 167 [.retAddr 0, .ref 0, .ref 24, .int (nI i)] [] n k w Q := by
  have g0 := LI_0 hL
  simp only [eL_law_167, eL_law_168, Option.toList_some, Option.toList_none, List.cons_append, List.nil_append, gcat_nil, gcat_cons, cat_int, cat_ref, cat_null, cat_ret, cat_long, grc_ref, narZ0, narZ1, true_and, and_true, decide_true, Nat.reduceAdd, Nat.reduceLeDiff, if_true, if_false, eq_self, gfld_in, gobj_in, garr_in, garq_in, glen_in, gisO_in, ex_some, List.getElem?_cons_succ, List.getElem?_cons_zero, List.length_cons, List.length_nil, List.set_cons_succ, List.set_cons_zero, Nat.reduceLT, va_up_eq, va_up_nl, g0]
  refine gEv.mono (s_clear hL) ?_
  rintro v n1 k1 w1 ⟨r, rfl, h6, h2⟩
  simp only [eL_law_171, eL_law_172, Option.toList_some, Option.toList_none, List.cons_append, List.nil_append, gcat_nil, gcat_cons, cat_int, cat_ref, cat_null, cat_ret, cat_long, grc_ref, narZ0, narZ1, true_and, and_true, decide_true, Nat.reduceAdd, Nat.reduceLeDiff, if_true, if_false, eq_self, gfld_in, gobj_in, garr_in, garq_in, glen_in, gisO_in, ex_some, List.getElem?_cons_succ, List.getElem?_cons_zero, List.length_cons, List.length_nil, List.set_cons_succ, List.set_cons_zero, Nat.reduceLT, va_up_eq, va_up_nl, h6]
  refine gEv.mono h2 ?_
  rintro v2 n2 k2 w2 ⟨rfl, hL2⟩
  simp only [eL_law_175, Option.toList_some, Option.toList_none, List.cons_append, List.nil_append, gcat_nil, gcat_cons, cat_int, cat_ref, cat_null, cat_ret, cat_long, grc_ref, narZ0, narZ1, true_and, and_true, decide_true, Nat.reduceAdd, Nat.reduceLeDiff, if_true, if_false, eq_self, gfld_in, gobj_in, garr_in, garq_in, glen_in, gisO_in, ex_some, List.getElem?_cons_succ, List.getElem?_cons_zero, List.length_cons, List.length_nil, List.set_cons_succ, List.set_cons_zero, Nat.reduceLT, va_up_eq, va_up_nl]
  exact hN _ _ _ hL2
theorem lw_tells (hX : X.1 ≤ 2560) (hi : i + 5 ≤ X.1) (hL : LI w n k) (hN : ∀ w n k, LI w n k → gEv (gT X) 8 796 [.retAddr 0, .ref 0, .ref 24, .int (nI i)] [] n k w Q) : gEv (gT X) 8 180 [.retAddr 0, .ref 0, .ref 24, .int (nI i)] [] n k w Q := by
  have g0 := LI_0 hL
  simp only [eL_law_180, eL_law_181, Option.toList_some, Option.toList_none, List.cons_append, List.nil_append, gcat_nil, gcat_cons, cat_int, cat_ref, cat_null, cat_ret, cat_long, grc_ref, narZ0, narZ1, true_and, and_true, decide_true, Nat.reduceAdd, Nat.reduceLeDiff, if_true, if_false, eq_self, gfld_in, gobj_in, garr_in, garq_in, glen_in, gisO_in, ex_some, List.getElem?_cons_succ, List.getElem?_cons_zero, List.length_cons, List.length_nil, List.set_cons_succ, List.set_cons_zero, Nat.reduceLT, va_up_eq, va_up_nl, g0]
  refine gEv.mono (s_tells hL) ?_
  rintro v n1 k1 w1 ⟨r, rfl, h6, h2⟩
  simp only [eL_law_184, eL_law_185, Option.toList_some, Option.toList_none, List.cons_append, List.nil_append, gcat_nil, gcat_cons, cat_int, cat_ref, cat_null, cat_ret, cat_long, grc_ref, narZ0, narZ1, true_and, and_true, decide_true, Nat.reduceAdd, Nat.reduceLeDiff, if_true, if_false, eq_self, gfld_in, gobj_in, garr_in, garq_in, glen_in, gisO_in, ex_some, List.getElem?_cons_succ, List.getElem?_cons_zero, List.length_cons, List.length_nil, List.set_cons_succ, List.set_cons_zero, Nat.reduceLT, va_up_eq, va_up_nl, h6]
  refine gEv.mono h2 ?_
  rintro v2 n2 k2 w2 ⟨rfl, hL2⟩
  simp only [eL_law_188, Option.toList_some, Option.toList_none, List.cons_append, List.nil_append, gcat_nil, gcat_cons, cat_int, cat_ref, cat_null, cat_ret, cat_long, grc_ref, narZ0, narZ1, true_and, and_true, decide_true, Nat.reduceAdd, Nat.reduceLeDiff, if_true, if_false, eq_self, gfld_in, gobj_in, garr_in, garq_in, glen_in, gisO_in, ex_some, List.getElem?_cons_succ, List.getElem?_cons_zero, List.length_cons, List.length_nil, List.set_cons_succ, List.set_cons_zero, Nat.reduceLT, va_up_eq, va_up_nl]
  exact hN _ _ _ hL2
theorem lw_drops (hX : X.1 ≤ 2560) (hi : i + 5 ≤ X.1) (hL : LI w n k) (hN : ∀ w n k, LI w n k → gEv (gT X) 8 796 [.retAddr 0, .ref 0, .ref 24, .int (nI i)] [] n k w Q) : gEv (gT X) 8 193 [.retAddr 0, .ref 0, .ref 24, .int (nI i)] [] n k w Q := by
  have g0 := LI_0 hL
  have v1 : vp_in (nI (i + 1)) X.1 := vp_in_nI (by omega) (by omega)
  have v2 : vp_in (nI (i + 2)) X.1 := vp_in_nI (by omega) (by omega)
  simp only [eL_law_193, eL_law_194, eL_law_195, eL_law_196, eL_law_197, eL_law_198, eL_law_199, eL_law_200, eL_law_201, eL_law_202, eL_law_203, eL_law_204, Option.toList_some, Option.toList_none, List.cons_append, List.nil_append, gcat_nil, gcat_cons, cat_int, cat_ref, cat_null, cat_ret, cat_long, grc_ref, narZ0, narZ1, true_and, and_true, decide_true, Nat.reduceAdd, Nat.reduceLeDiff, if_true, if_false, eq_self, gfld_in, gobj_in, garr_in, garq_in, glen_in, gisO_in, ex_some, List.getElem?_cons_succ, List.getElem?_cons_zero, List.length_cons, List.length_nil, List.set_cons_succ, List.set_cons_zero, Nat.reduceLT, va_up_eq, va_up_nl, g0, nI_1, nIp2, v1, v2, nI_clamp (show i + 1 < 2 ^ 31 by omega), nI_clamp (show i + 2 < 2 ^ 31 by omega)]
  refine gEv.mono (s_drops hL) ?_
  rintro v n1 k1 w1 ⟨r, rfl, h6, h2⟩
  simp only [eL_law_207, eL_law_208, eL_law_209, eL_law_210, eL_law_211, eL_law_212, eL_law_213, eL_law_214, eL_law_215, eL_law_216, eL_law_217, eL_law_218, Option.toList_some, Option.toList_none, List.cons_append, List.nil_append, gcat_nil, gcat_cons, cat_int, cat_ref, cat_null, cat_ret, cat_long, grc_ref, narZ0, narZ1, true_and, and_true, decide_true, Nat.reduceAdd, Nat.reduceLeDiff, if_true, if_false, eq_self, gfld_in, gobj_in, garr_in, garq_in, glen_in, gisO_in, ex_some, List.getElem?_cons_succ, List.getElem?_cons_zero, List.length_cons, List.length_nil, List.set_cons_succ, List.set_cons_zero, Nat.reduceLT, va_up_eq, va_up_nl, h6, nI_1, nIp2, v1, v2, nI_clamp (show i + 1 < 2 ^ 31 by omega), nI_clamp (show i + 2 < 2 ^ 31 by omega)]
  refine gEv.mono h2 ?_
  rintro v2 n2 k2 w2 ⟨rfl, hL2⟩
  simp only [eL_law_221, Option.toList_some, Option.toList_none, List.cons_append, List.nil_append, gcat_nil, gcat_cons, cat_int, cat_ref, cat_null, cat_ret, cat_long, grc_ref, narZ0, narZ1, true_and, and_true, decide_true, Nat.reduceAdd, Nat.reduceLeDiff, if_true, if_false, eq_self, gfld_in, gobj_in, garr_in, garq_in, glen_in, gisO_in, ex_some, List.getElem?_cons_succ, List.getElem?_cons_zero, List.length_cons, List.length_nil, List.set_cons_succ, List.set_cons_zero, Nat.reduceLT, va_up_eq, va_up_nl]
  exact hN _ _ _ hL2
theorem lw_frees (hX : X.1 ≤ 2560) (hi : i + 5 ≤ X.1) (hL : LI w n k) (hN : ∀ w n k, LI w n k → gEv (gT X) 8 796 [.retAddr 0, .ref 0, .ref 24, .int (nI i)] [] n k w Q) : gEv (gT X) 8 226 [.retAddr 0, .ref 0, .ref 24, .int (nI i)] [] n k w Q := by
  have g0 := LI_0 hL
  simp only [eL_law_226, eL_law_227, Option.toList_some, Option.toList_none, List.cons_append, List.nil_append, gcat_nil, gcat_cons, cat_int, cat_ref, cat_null, cat_ret, cat_long, grc_ref, narZ0, narZ1, true_and, and_true, decide_true, Nat.reduceAdd, Nat.reduceLeDiff, if_true, if_false, eq_self, gfld_in, gobj_in, garr_in, garq_in, glen_in, gisO_in, ex_some, List.getElem?_cons_succ, List.getElem?_cons_zero, List.length_cons, List.length_nil, List.set_cons_succ, List.set_cons_zero, Nat.reduceLT, va_up_eq, va_up_nl, g0]
  refine gEv.mono (s_frees hL) ?_
  rintro v n1 k1 w1 ⟨r, rfl, h6, h2⟩
  simp only [eL_law_230, eL_law_231, Option.toList_some, Option.toList_none, List.cons_append, List.nil_append, gcat_nil, gcat_cons, cat_int, cat_ref, cat_null, cat_ret, cat_long, grc_ref, narZ0, narZ1, true_and, and_true, decide_true, Nat.reduceAdd, Nat.reduceLeDiff, if_true, if_false, eq_self, gfld_in, gobj_in, garr_in, garq_in, glen_in, gisO_in, ex_some, List.getElem?_cons_succ, List.getElem?_cons_zero, List.length_cons, List.length_nil, List.set_cons_succ, List.set_cons_zero, Nat.reduceLT, va_up_eq, va_up_nl, h6]
  refine gEv.mono h2 ?_
  rintro v2 n2 k2 w2 ⟨rfl, hL2⟩
  simp only [eL_law_234, Option.toList_some, Option.toList_none, List.cons_append, List.nil_append, gcat_nil, gcat_cons, cat_int, cat_ref, cat_null, cat_ret, cat_long, grc_ref, narZ0, narZ1, true_and, and_true, decide_true, Nat.reduceAdd, Nat.reduceLeDiff, if_true, if_false, eq_self, gfld_in, gobj_in, garr_in, garq_in, glen_in, gisO_in, ex_some, List.getElem?_cons_succ, List.getElem?_cons_zero, List.length_cons, List.length_nil, List.set_cons_succ, List.set_cons_zero, Nat.reduceLT, va_up_eq, va_up_nl]
  exact hN _ _ _ hL2
theorem lw_empties (hX : X.1 ≤ 2560) (hi : i + 5 ≤ X.1) (hL : LI w n k) (hN : ∀ w n k, LI w n k → gEv (gT X) 8 796 [.retAddr 0, .ref 0, .ref 24, .int (nI i)] [] n k w Q) : gEv (gT X) 8 239 [.retAddr 0, .ref 0, .ref 24, .int (nI i)] [] n k w Q := by
  have g0 := LI_0 hL
  have v1 : vp_in (nI (i + 1)) X.1 := vp_in_nI (by omega) (by omega)
  simp only [eL_law_239, eL_law_240, eL_law_241, eL_law_242, eL_law_243, eL_law_244, eL_law_245, Option.toList_some, Option.toList_none, List.cons_append, List.nil_append, gcat_nil, gcat_cons, cat_int, cat_ref, cat_null, cat_ret, cat_long, grc_ref, narZ0, narZ1, true_and, and_true, decide_true, Nat.reduceAdd, Nat.reduceLeDiff, if_true, if_false, eq_self, gfld_in, gobj_in, garr_in, garq_in, glen_in, gisO_in, ex_some, List.getElem?_cons_succ, List.getElem?_cons_zero, List.length_cons, List.length_nil, List.set_cons_succ, List.set_cons_zero, Nat.reduceLT, va_up_eq, va_up_nl, g0, nI_1, v1, nI_clamp (show i + 1 < 2 ^ 31 by omega)]
  refine gEv.mono (s_empties hL) ?_
  rintro v n1 k1 w1 ⟨r, rfl, h6, h2⟩
  simp only [eL_law_248, eL_law_249, eL_law_250, eL_law_251, eL_law_252, eL_law_253, eL_law_254, Option.toList_some, Option.toList_none, List.cons_append, List.nil_append, gcat_nil, gcat_cons, cat_int, cat_ref, cat_null, cat_ret, cat_long, grc_ref, narZ0, narZ1, true_and, and_true, decide_true, Nat.reduceAdd, Nat.reduceLeDiff, if_true, if_false, eq_self, gfld_in, gobj_in, garr_in, garq_in, glen_in, gisO_in, ex_some, List.getElem?_cons_succ, List.getElem?_cons_zero, List.length_cons, List.length_nil, List.set_cons_succ, List.set_cons_zero, Nat.reduceLT, va_up_eq, va_up_nl, h6, nI_1, v1, nI_clamp (show i + 1 < 2 ^ 31 by omega)]
  refine gEv.mono h2 ?_
  rintro v2 n2 k2 w2 ⟨rfl, hL2⟩
  simp only [eL_law_257, Option.toList_some, Option.toList_none, List.cons_append, List.nil_append, gcat_nil, gcat_cons, cat_int, cat_ref, cat_null, cat_ret, cat_long, grc_ref, narZ0, narZ1, true_and, and_true, decide_true, Nat.reduceAdd, Nat.reduceLeDiff, if_true, if_false, eq_self, gfld_in, gobj_in, garr_in, garq_in, glen_in, gisO_in, ex_some, List.getElem?_cons_succ, List.getElem?_cons_zero, List.length_cons, List.length_nil, List.set_cons_succ, List.set_cons_zero, Nat.reduceLT, va_up_eq, va_up_nl]
  exact hN _ _ _ hL2
theorem lw_puts (hX : X.1 ≤ 2560) (hi : i + 5 ≤ X.1) (hL : LI w n k) (hN : ∀ w n k, LI w n k → gEv (gT X) 8 796 [.retAddr 0, .ref 0, .ref 24, .int (nI i)] [] n k w Q) : gEv (gT X) 8 262 [.retAddr 0, .ref 0, .ref 24, .int (nI i)] [] n k w Q := by
  have g0 := LI_0 hL
  have v1 : vp_in (nI (i + 1)) X.1 := vp_in_nI (by omega) (by omega)
  have v2 : vp_in (nI (i + 2)) X.1 := vp_in_nI (by omega) (by omega)
  have v3 : vp_in (nI (i + 3)) X.1 := vp_in_nI (by omega) (by omega)
  have v4 : vp_in (nI (i + 4)) X.1 := vp_in_nI (by omega) (by omega)
  simp only [eL_law_262, eL_law_263, eL_law_264, eL_law_265, eL_law_266, eL_law_267, eL_law_268, eL_law_269, eL_law_270, eL_law_271, eL_law_272, eL_law_273, eL_law_274, eL_law_275, eL_law_276, eL_law_277, eL_law_278, eL_law_279, eL_law_280, eL_law_281, eL_law_282, eL_law_283, Option.toList_some, Option.toList_none, List.cons_append, List.nil_append, gcat_nil, gcat_cons, cat_int, cat_ref, cat_null, cat_ret, cat_long, grc_ref, narZ0, narZ1, true_and, and_true, decide_true, Nat.reduceAdd, Nat.reduceLeDiff, if_true, if_false, eq_self, gfld_in, gobj_in, garr_in, garq_in, glen_in, gisO_in, ex_some, List.getElem?_cons_succ, List.getElem?_cons_zero, List.length_cons, List.length_nil, List.set_cons_succ, List.set_cons_zero, Nat.reduceLT, va_up_eq, va_up_nl, g0, nI_1, nIp2, nIp3, nIp4, v1, v2, v3, v4, nI_clamp (show i + 1 < 2 ^ 31 by omega), nI_clamp (show i + 2 < 2 ^ 31 by omega), nI_clamp (show i + 3 < 2 ^ 31 by omega), nI_clamp (show i + 4 < 2 ^ 31 by omega)]
  refine gEv.mono (s_puts hL) ?_
  rintro v n1 k1 w1 ⟨r, rfl, h6, h2⟩
  simp only [eL_law_286, eL_law_287, eL_law_288, eL_law_289, eL_law_290, eL_law_291, eL_law_292, eL_law_293, eL_law_294, eL_law_295, eL_law_296, eL_law_297, eL_law_298, eL_law_299, eL_law_300, eL_law_301, eL_law_302, eL_law_303, eL_law_304, eL_law_305, eL_law_306, eL_law_307, Option.toList_some, Option.toList_none, List.cons_append, List.nil_append, gcat_nil, gcat_cons, cat_int, cat_ref, cat_null, cat_ret, cat_long, grc_ref, narZ0, narZ1, true_and, and_true, decide_true, Nat.reduceAdd, Nat.reduceLeDiff, if_true, if_false, eq_self, gfld_in, gobj_in, garr_in, garq_in, glen_in, gisO_in, ex_some, List.getElem?_cons_succ, List.getElem?_cons_zero, List.length_cons, List.length_nil, List.set_cons_succ, List.set_cons_zero, Nat.reduceLT, va_up_eq, va_up_nl, h6, nI_1, nIp2, nIp3, nIp4, v1, v2, v3, v4, nI_clamp (show i + 1 < 2 ^ 31 by omega), nI_clamp (show i + 2 < 2 ^ 31 by omega), nI_clamp (show i + 3 < 2 ^ 31 by omega), nI_clamp (show i + 4 < 2 ^ 31 by omega)]
  refine gEv.mono h2 ?_
  rintro v2 n2 k2 w2 ⟨rfl, hL2⟩
  simp only [eL_law_310, Option.toList_some, Option.toList_none, List.cons_append, List.nil_append, gcat_nil, gcat_cons, cat_int, cat_ref, cat_null, cat_ret, cat_long, grc_ref, narZ0, narZ1, true_and, and_true, decide_true, Nat.reduceAdd, Nat.reduceLeDiff, if_true, if_false, eq_self, gfld_in, gobj_in, garr_in, garq_in, glen_in, gisO_in, ex_some, List.getElem?_cons_succ, List.getElem?_cons_zero, List.length_cons, List.length_nil, List.set_cons_succ, List.set_cons_zero, Nat.reduceLT, va_up_eq, va_up_nl]
  exact hN _ _ _ hL2
theorem lw_takes (hX : X.1 ≤ 2560) (hi : i + 5 ≤ X.1) (hL : LI w n k) (hN : ∀ w n k, LI w n k → gEv (gT X) 8 796 [.retAddr 0, .ref 0, .ref 24, .int (nI i)] [] n k w Q) : gEv (gT X) 8 315 [.retAddr 0, .ref 0, .ref 24, .int (nI i)] [] n k w Q := by
  have g0 := LI_0 hL
  have v1 : vp_in (nI (i + 1)) X.1 := vp_in_nI (by omega) (by omega)
  simp only [eL_law_315, eL_law_316, eL_law_317, eL_law_318, eL_law_319, eL_law_320, eL_law_321, Option.toList_some, Option.toList_none, List.cons_append, List.nil_append, gcat_nil, gcat_cons, cat_int, cat_ref, cat_null, cat_ret, cat_long, grc_ref, narZ0, narZ1, true_and, and_true, decide_true, Nat.reduceAdd, Nat.reduceLeDiff, if_true, if_false, eq_self, gfld_in, gobj_in, garr_in, garq_in, glen_in, gisO_in, ex_some, List.getElem?_cons_succ, List.getElem?_cons_zero, List.length_cons, List.length_nil, List.set_cons_succ, List.set_cons_zero, Nat.reduceLT, va_up_eq, va_up_nl, g0, nI_1, v1, nI_clamp (show i + 1 < 2 ^ 31 by omega)]
  refine gEv.mono (s_takes hL) ?_
  rintro v n1 k1 w1 ⟨r, rfl, h6, h2⟩
  simp only [eL_law_324, eL_law_325, eL_law_326, eL_law_327, eL_law_328, eL_law_329, eL_law_330, Option.toList_some, Option.toList_none, List.cons_append, List.nil_append, gcat_nil, gcat_cons, cat_int, cat_ref, cat_null, cat_ret, cat_long, grc_ref, narZ0, narZ1, true_and, and_true, decide_true, Nat.reduceAdd, Nat.reduceLeDiff, if_true, if_false, eq_self, gfld_in, gobj_in, garr_in, garq_in, glen_in, gisO_in, ex_some, List.getElem?_cons_succ, List.getElem?_cons_zero, List.length_cons, List.length_nil, List.set_cons_succ, List.set_cons_zero, Nat.reduceLT, va_up_eq, va_up_nl, h6, nI_1, v1, nI_clamp (show i + 1 < 2 ^ 31 by omega)]
  refine gEv.mono h2 ?_
  rintro v2 n2 k2 w2 ⟨rfl, hL2⟩
  simp only [eL_law_333, Option.toList_some, Option.toList_none, List.cons_append, List.nil_append, gcat_nil, gcat_cons, cat_int, cat_ref, cat_null, cat_ret, cat_long, grc_ref, narZ0, narZ1, true_and, and_true, decide_true, Nat.reduceAdd, Nat.reduceLeDiff, if_true, if_false, eq_self, gfld_in, gobj_in, garr_in, garq_in, glen_in, gisO_in, ex_some, List.getElem?_cons_succ, List.getElem?_cons_zero, List.length_cons, List.length_nil, List.set_cons_succ, List.set_cons_zero, Nat.reduceLT, va_up_eq, va_up_nl]
  exact hN _ _ _ hL2
theorem lw_sets (hX : X.1 ≤ 2560) (hi : i + 5 ≤ X.1) (hL : LI w n k) (hN : ∀ w n k, LI w n k → gEv (gT X) 8 796 [.retAddr 0, .ref 0, .ref 24, .int (nI i)] [] n k w Q) : gEv (gT X) 8 338 [.retAddr 0, .ref 0, .ref 24, .int (nI i)] [] n k w Q := by
  have g0 := LI_0 hL
  have v1 : vp_in (nI (i + 1)) X.1 := vp_in_nI (by omega) (by omega)
  have v2 : vp_in (nI (i + 2)) X.1 := vp_in_nI (by omega) (by omega)
  simp only [eL_law_338, eL_law_339, eL_law_340, eL_law_341, eL_law_342, eL_law_343, eL_law_344, eL_law_345, eL_law_346, eL_law_347, eL_law_348, eL_law_349, Option.toList_some, Option.toList_none, List.cons_append, List.nil_append, gcat_nil, gcat_cons, cat_int, cat_ref, cat_null, cat_ret, cat_long, grc_ref, narZ0, narZ1, true_and, and_true, decide_true, Nat.reduceAdd, Nat.reduceLeDiff, if_true, if_false, eq_self, gfld_in, gobj_in, garr_in, garq_in, glen_in, gisO_in, ex_some, List.getElem?_cons_succ, List.getElem?_cons_zero, List.length_cons, List.length_nil, List.set_cons_succ, List.set_cons_zero, Nat.reduceLT, va_up_eq, va_up_nl, g0, nI_1, nIp2, v1, v2, nI_clamp (show i + 1 < 2 ^ 31 by omega), nI_clamp (show i + 2 < 2 ^ 31 by omega)]
  refine gEv.mono (s_sets hL) ?_
  rintro v n1 k1 w1 ⟨r, rfl, h6, h2⟩
  simp only [eL_law_352, eL_law_353, eL_law_354, eL_law_355, eL_law_356, eL_law_357, eL_law_358, eL_law_359, eL_law_360, eL_law_361, eL_law_362, eL_law_363, Option.toList_some, Option.toList_none, List.cons_append, List.nil_append, gcat_nil, gcat_cons, cat_int, cat_ref, cat_null, cat_ret, cat_long, grc_ref, narZ0, narZ1, true_and, and_true, decide_true, Nat.reduceAdd, Nat.reduceLeDiff, if_true, if_false, eq_self, gfld_in, gobj_in, garr_in, garq_in, glen_in, gisO_in, ex_some, List.getElem?_cons_succ, List.getElem?_cons_zero, List.length_cons, List.length_nil, List.set_cons_succ, List.set_cons_zero, Nat.reduceLT, va_up_eq, va_up_nl, h6, nI_1, nIp2, v1, v2, nI_clamp (show i + 1 < 2 ^ 31 by omega), nI_clamp (show i + 2 < 2 ^ 31 by omega)]
  refine gEv.mono h2 ?_
  rintro v2 n2 k2 w2 ⟨rfl, hL2⟩
  simp only [eL_law_366, Option.toList_some, Option.toList_none, List.cons_append, List.nil_append, gcat_nil, gcat_cons, cat_int, cat_ref, cat_null, cat_ret, cat_long, grc_ref, narZ0, narZ1, true_and, and_true, decide_true, Nat.reduceAdd, Nat.reduceLeDiff, if_true, if_false, eq_self, gfld_in, gobj_in, garr_in, garq_in, glen_in, gisO_in, ex_some, List.getElem?_cons_succ, List.getElem?_cons_zero, List.length_cons, List.length_nil, List.set_cons_succ, List.set_cons_zero, Nat.reduceLT, va_up_eq, va_up_nl]
  exact hN _ _ _ hL2
theorem lw_adds (hX : X.1 ≤ 2560) (hi : i + 5 ≤ X.1) (hL : LI w n k) (hN : ∀ w n k, LI w n k → gEv (gT X) 8 796 [.retAddr 0, .ref 0, .ref 24, .int (nI i)] [] n k w Q) : gEv (gT X) 8 371 [.retAddr 0, .ref 0, .ref 24, .int (nI i)] [] n k w Q := by
  have g0 := LI_0 hL
  have v1 : vp_in (nI (i + 1)) X.1 := vp_in_nI (by omega) (by omega)
  have v2 : vp_in (nI (i + 2)) X.1 := vp_in_nI (by omega) (by omega)
  have v3 : vp_in (nI (i + 3)) X.1 := vp_in_nI (by omega) (by omega)
  have v4 : vp_in (nI (i + 4)) X.1 := vp_in_nI (by omega) (by omega)
  simp only [eL_law_371, eL_law_372, eL_law_373, eL_law_374, eL_law_375, eL_law_376, eL_law_377, eL_law_378, eL_law_379, eL_law_380, eL_law_381, eL_law_382, eL_law_383, eL_law_384, eL_law_385, eL_law_386, eL_law_387, eL_law_388, eL_law_389, eL_law_390, eL_law_391, eL_law_392, Option.toList_some, Option.toList_none, List.cons_append, List.nil_append, gcat_nil, gcat_cons, cat_int, cat_ref, cat_null, cat_ret, cat_long, grc_ref, narZ0, narZ1, true_and, and_true, decide_true, Nat.reduceAdd, Nat.reduceLeDiff, if_true, if_false, eq_self, gfld_in, gobj_in, garr_in, garq_in, glen_in, gisO_in, ex_some, List.getElem?_cons_succ, List.getElem?_cons_zero, List.length_cons, List.length_nil, List.set_cons_succ, List.set_cons_zero, Nat.reduceLT, va_up_eq, va_up_nl, g0, nI_1, nIp2, nIp3, nIp4, v1, v2, v3, v4, nI_clamp (show i + 1 < 2 ^ 31 by omega), nI_clamp (show i + 2 < 2 ^ 31 by omega), nI_clamp (show i + 3 < 2 ^ 31 by omega), nI_clamp (show i + 4 < 2 ^ 31 by omega)]
  refine gEv.mono (s_adds hL) ?_
  rintro v n1 k1 w1 ⟨r, rfl, h6, h2⟩
  simp only [eL_law_395, eL_law_396, eL_law_397, eL_law_398, eL_law_399, eL_law_400, eL_law_401, eL_law_402, eL_law_403, eL_law_404, eL_law_405, eL_law_406, eL_law_407, eL_law_408, eL_law_409, eL_law_410, eL_law_411, eL_law_412, eL_law_413, eL_law_414, eL_law_415, eL_law_416, Option.toList_some, Option.toList_none, List.cons_append, List.nil_append, gcat_nil, gcat_cons, cat_int, cat_ref, cat_null, cat_ret, cat_long, grc_ref, narZ0, narZ1, true_and, and_true, decide_true, Nat.reduceAdd, Nat.reduceLeDiff, if_true, if_false, eq_self, gfld_in, gobj_in, garr_in, garq_in, glen_in, gisO_in, ex_some, List.getElem?_cons_succ, List.getElem?_cons_zero, List.length_cons, List.length_nil, List.set_cons_succ, List.set_cons_zero, Nat.reduceLT, va_up_eq, va_up_nl, h6, nI_1, nIp2, nIp3, nIp4, v1, v2, v3, v4, nI_clamp (show i + 1 < 2 ^ 31 by omega), nI_clamp (show i + 2 < 2 ^ 31 by omega), nI_clamp (show i + 3 < 2 ^ 31 by omega), nI_clamp (show i + 4 < 2 ^ 31 by omega)]
  refine gEv.mono h2 ?_
  rintro v2 n2 k2 w2 ⟨rfl, hL2⟩
  simp only [eL_law_419, Option.toList_some, Option.toList_none, List.cons_append, List.nil_append, gcat_nil, gcat_cons, cat_int, cat_ref, cat_null, cat_ret, cat_long, grc_ref, narZ0, narZ1, true_and, and_true, decide_true, Nat.reduceAdd, Nat.reduceLeDiff, if_true, if_false, eq_self, gfld_in, gobj_in, garr_in, garq_in, glen_in, gisO_in, ex_some, List.getElem?_cons_succ, List.getElem?_cons_zero, List.length_cons, List.length_nil, List.set_cons_succ, List.set_cons_zero, Nat.reduceLT, va_up_eq, va_up_nl]
  exact hN _ _ _ hL2
theorem lw_undo (hX : X.1 ≤ 2560) (hi : i + 5 ≤ X.1) (hL : LI w n k) (hN : ∀ w n k, LI w n k → gEv (gT X) 8 796 [.retAddr 0, .ref 0, .ref 24, .int (nI i)] [] n k w Q) : gEv (gT X) 8 424 [.retAddr 0, .ref 0, .ref 24, .int (nI i)] [] n k w Q := by
  have g0 := LI_0 hL
  simp only [eL_law_424, eL_law_425, Option.toList_some, Option.toList_none, List.cons_append, List.nil_append, gcat_nil, gcat_cons, cat_int, cat_ref, cat_null, cat_ret, cat_long, grc_ref, narZ0, narZ1, true_and, and_true, decide_true, Nat.reduceAdd, Nat.reduceLeDiff, if_true, if_false, eq_self, gfld_in, gobj_in, garr_in, garq_in, glen_in, gisO_in, ex_some, List.getElem?_cons_succ, List.getElem?_cons_zero, List.length_cons, List.length_nil, List.set_cons_succ, List.set_cons_zero, Nat.reduceLT, va_up_eq, va_up_nl, g0]
  refine gEv.mono (s_undo hL) ?_
  rintro v n1 k1 w1 ⟨r, rfl, h6, h2⟩
  simp only [eL_law_428, eL_law_429, Option.toList_some, Option.toList_none, List.cons_append, List.nil_append, gcat_nil, gcat_cons, cat_int, cat_ref, cat_null, cat_ret, cat_long, grc_ref, narZ0, narZ1, true_and, and_true, decide_true, Nat.reduceAdd, Nat.reduceLeDiff, if_true, if_false, eq_self, gfld_in, gobj_in, garr_in, garq_in, glen_in, gisO_in, ex_some, List.getElem?_cons_succ, List.getElem?_cons_zero, List.length_cons, List.length_nil, List.set_cons_succ, List.set_cons_zero, Nat.reduceLT, va_up_eq, va_up_nl, h6]
  refine gEv.mono h2 ?_
  rintro v2 n2 k2 w2 ⟨rfl, hL2⟩
  simp only [eL_law_432, Option.toList_some, Option.toList_none, List.cons_append, List.nil_append, gcat_nil, gcat_cons, cat_int, cat_ref, cat_null, cat_ret, cat_long, grc_ref, narZ0, narZ1, true_and, and_true, decide_true, Nat.reduceAdd, Nat.reduceLeDiff, if_true, if_false, eq_self, gfld_in, gobj_in, garr_in, garq_in, glen_in, gisO_in, ex_some, List.getElem?_cons_succ, List.getElem?_cons_zero, List.length_cons, List.length_nil, List.set_cons_succ, List.set_cons_zero, Nat.reduceLT, va_up_eq, va_up_nl]
  exact hN _ _ _ hL2
theorem lw_kind (hX : X.1 ≤ 2560) (hi : i + 5 ≤ X.1) (hL : LI w n k) (hN : ∀ w n k, LI w n k → gEv (gT X) 8 796 [.retAddr 0, .ref 0, .ref 24, .int (nI i)] [] n k w Q) : gEv (gT X) 8 437 [.retAddr 0, .ref 0, .ref 24, .int (nI i)] [] n k w Q := by
  have g0 := LI_0 hL
  have v1 : vp_in (nI (i + 1)) X.1 := vp_in_nI (by omega) (by omega)
  have v2 : vp_in (nI (i + 2)) X.1 := vp_in_nI (by omega) (by omega)
  simp only [eL_law_437, eL_law_438, eL_law_439, eL_law_440, eL_law_441, eL_law_442, eL_law_443, eL_law_444, eL_law_445, eL_law_446, eL_law_447, eL_law_448, Option.toList_some, Option.toList_none, List.cons_append, List.nil_append, gcat_nil, gcat_cons, cat_int, cat_ref, cat_null, cat_ret, cat_long, grc_ref, narZ0, narZ1, true_and, and_true, decide_true, Nat.reduceAdd, Nat.reduceLeDiff, if_true, if_false, eq_self, gfld_in, gobj_in, garr_in, garq_in, glen_in, gisO_in, ex_some, List.getElem?_cons_succ, List.getElem?_cons_zero, List.length_cons, List.length_nil, List.set_cons_succ, List.set_cons_zero, Nat.reduceLT, va_up_eq, va_up_nl, g0, nI_1, nIp2, v1, v2, nI_clamp (show i + 1 < 2 ^ 31 by omega), nI_clamp (show i + 2 < 2 ^ 31 by omega)]
  refine gEv.mono (s_kind hL) ?_
  rintro v n1 k1 w1 ⟨r, rfl, h6, h2⟩
  simp only [eL_law_451, eL_law_452, eL_law_453, eL_law_454, eL_law_455, eL_law_456, eL_law_457, eL_law_458, eL_law_459, eL_law_460, eL_law_461, eL_law_462, Option.toList_some, Option.toList_none, List.cons_append, List.nil_append, gcat_nil, gcat_cons, cat_int, cat_ref, cat_null, cat_ret, cat_long, grc_ref, narZ0, narZ1, true_and, and_true, decide_true, Nat.reduceAdd, Nat.reduceLeDiff, if_true, if_false, eq_self, gfld_in, gobj_in, garr_in, garq_in, glen_in, gisO_in, ex_some, List.getElem?_cons_succ, List.getElem?_cons_zero, List.length_cons, List.length_nil, List.set_cons_succ, List.set_cons_zero, Nat.reduceLT, va_up_eq, va_up_nl, h6, nI_1, nIp2, v1, v2, nI_clamp (show i + 1 < 2 ^ 31 by omega), nI_clamp (show i + 2 < 2 ^ 31 by omega)]
  refine gEv.mono h2 ?_
  rintro v2 n2 k2 w2 ⟨rfl, hL2⟩
  simp only [eL_law_465, Option.toList_some, Option.toList_none, List.cons_append, List.nil_append, gcat_nil, gcat_cons, cat_int, cat_ref, cat_null, cat_ret, cat_long, grc_ref, narZ0, narZ1, true_and, and_true, decide_true, Nat.reduceAdd, Nat.reduceLeDiff, if_true, if_false, eq_self, gfld_in, gobj_in, garr_in, garq_in, glen_in, gisO_in, ex_some, List.getElem?_cons_succ, List.getElem?_cons_zero, List.length_cons, List.length_nil, List.set_cons_succ, List.set_cons_zero, Nat.reduceLT, va_up_eq, va_up_nl]
  exact hN _ _ _ hL2
theorem lw_test (hX : X.1 ≤ 2560) (hi : i + 5 ≤ X.1) (hL : LI w n k) (hN : ∀ w n k, LI w n k → gEv (gT X) 8 796 [.retAddr 0, .ref 0, .ref 24, .int (nI i)] [] n k w Q) : gEv (gT X) 8 470 [.retAddr 0, .ref 0, .ref 24, .int (nI i)] [] n k w Q := by
  have g0 := LI_0 hL
  have v1 : vp_in (nI (i + 1)) X.1 := vp_in_nI (by omega) (by omega)
  have v2 : vp_in (nI (i + 2)) X.1 := vp_in_nI (by omega) (by omega)
  simp only [eL_law_470, eL_law_471, eL_law_472, eL_law_473, eL_law_474, eL_law_475, eL_law_476, eL_law_477, eL_law_478, eL_law_479, eL_law_480, eL_law_481, Option.toList_some, Option.toList_none, List.cons_append, List.nil_append, gcat_nil, gcat_cons, cat_int, cat_ref, cat_null, cat_ret, cat_long, grc_ref, narZ0, narZ1, true_and, and_true, decide_true, Nat.reduceAdd, Nat.reduceLeDiff, if_true, if_false, eq_self, gfld_in, gobj_in, garr_in, garq_in, glen_in, gisO_in, ex_some, List.getElem?_cons_succ, List.getElem?_cons_zero, List.length_cons, List.length_nil, List.set_cons_succ, List.set_cons_zero, Nat.reduceLT, va_up_eq, va_up_nl, g0, nI_1, nIp2, v1, v2, nI_clamp (show i + 1 < 2 ^ 31 by omega), nI_clamp (show i + 2 < 2 ^ 31 by omega)]
  refine gEv.mono (s_test hL) ?_
  rintro v n1 k1 w1 ⟨r, rfl, h6, h2⟩
  simp only [eL_law_484, eL_law_485, eL_law_486, eL_law_487, eL_law_488, eL_law_489, eL_law_490, eL_law_491, eL_law_492, eL_law_493, eL_law_494, eL_law_495, Option.toList_some, Option.toList_none, List.cons_append, List.nil_append, gcat_nil, gcat_cons, cat_int, cat_ref, cat_null, cat_ret, cat_long, grc_ref, narZ0, narZ1, true_and, and_true, decide_true, Nat.reduceAdd, Nat.reduceLeDiff, if_true, if_false, eq_self, gfld_in, gobj_in, garr_in, garq_in, glen_in, gisO_in, ex_some, List.getElem?_cons_succ, List.getElem?_cons_zero, List.length_cons, List.length_nil, List.set_cons_succ, List.set_cons_zero, Nat.reduceLT, va_up_eq, va_up_nl, h6, nI_1, nIp2, v1, v2, nI_clamp (show i + 1 < 2 ^ 31 by omega), nI_clamp (show i + 2 < 2 ^ 31 by omega)]
  refine gEv.mono h2 ?_
  rintro v2 n2 k2 w2 ⟨rfl, hL2⟩
  simp only [eL_law_498, Option.toList_some, Option.toList_none, List.cons_append, List.nil_append, gcat_nil, gcat_cons, cat_int, cat_ref, cat_null, cat_ret, cat_long, grc_ref, narZ0, narZ1, true_and, and_true, decide_true, Nat.reduceAdd, Nat.reduceLeDiff, if_true, if_false, eq_self, gfld_in, gobj_in, garr_in, garq_in, glen_in, gisO_in, ex_some, List.getElem?_cons_succ, List.getElem?_cons_zero, List.length_cons, List.length_nil, List.set_cons_succ, List.set_cons_zero, Nat.reduceLT, va_up_eq, va_up_nl]
  exact hN _ _ _ hL2
theorem lw_bin (hX : X.1 ≤ 2560) (hi : i + 5 ≤ X.1) (hL : LI w n k) (hN : ∀ w n k, LI w n k → gEv (gT X) 8 796 [.retAddr 0, .ref 0, .ref 24, .int (nI i)] [] n k w Q) : gEv (gT X) 8 503 [.retAddr 0, .ref 0, .ref 24, .int (nI i)] [] n k w Q := by
  have g0 := LI_0 hL
  have v1 : vp_in (nI (i + 1)) X.1 := vp_in_nI (by omega) (by omega)
  have v2 : vp_in (nI (i + 2)) X.1 := vp_in_nI (by omega) (by omega)
  simp only [eL_law_503, eL_law_504, eL_law_505, eL_law_506, eL_law_507, eL_law_508, eL_law_509, eL_law_510, eL_law_511, eL_law_512, eL_law_513, eL_law_514, Option.toList_some, Option.toList_none, List.cons_append, List.nil_append, gcat_nil, gcat_cons, cat_int, cat_ref, cat_null, cat_ret, cat_long, grc_ref, narZ0, narZ1, true_and, and_true, decide_true, Nat.reduceAdd, Nat.reduceLeDiff, if_true, if_false, eq_self, gfld_in, gobj_in, garr_in, garq_in, glen_in, gisO_in, ex_some, List.getElem?_cons_succ, List.getElem?_cons_zero, List.length_cons, List.length_nil, List.set_cons_succ, List.set_cons_zero, Nat.reduceLT, va_up_eq, va_up_nl, g0, nI_1, nIp2, v1, v2, nI_clamp (show i + 1 < 2 ^ 31 by omega), nI_clamp (show i + 2 < 2 ^ 31 by omega)]
  refine gEv.mono (s_bin hL) ?_
  rintro v n1 k1 w1 ⟨r, rfl, h6, h2⟩
  simp only [eL_law_517, eL_law_518, eL_law_519, eL_law_520, eL_law_521, eL_law_522, eL_law_523, eL_law_524, eL_law_525, eL_law_526, eL_law_527, eL_law_528, Option.toList_some, Option.toList_none, List.cons_append, List.nil_append, gcat_nil, gcat_cons, cat_int, cat_ref, cat_null, cat_ret, cat_long, grc_ref, narZ0, narZ1, true_and, and_true, decide_true, Nat.reduceAdd, Nat.reduceLeDiff, if_true, if_false, eq_self, gfld_in, gobj_in, garr_in, garq_in, glen_in, gisO_in, ex_some, List.getElem?_cons_succ, List.getElem?_cons_zero, List.length_cons, List.length_nil, List.set_cons_succ, List.set_cons_zero, Nat.reduceLT, va_up_eq, va_up_nl, h6, nI_1, nIp2, v1, v2, nI_clamp (show i + 1 < 2 ^ 31 by omega), nI_clamp (show i + 2 < 2 ^ 31 by omega)]
  refine gEv.mono h2 ?_
  rintro v2 n2 k2 w2 ⟨rfl, hL2⟩
  simp only [eL_law_531, Option.toList_some, Option.toList_none, List.cons_append, List.nil_append, gcat_nil, gcat_cons, cat_int, cat_ref, cat_null, cat_ret, cat_long, grc_ref, narZ0, narZ1, true_and, and_true, decide_true, Nat.reduceAdd, Nat.reduceLeDiff, if_true, if_false, eq_self, gfld_in, gobj_in, garr_in, garq_in, glen_in, gisO_in, ex_some, List.getElem?_cons_succ, List.getElem?_cons_zero, List.length_cons, List.length_nil, List.set_cons_succ, List.set_cons_zero, Nat.reduceLT, va_up_eq, va_up_nl]
  exact hN _ _ _ hL2
theorem lw_coin (hX : X.1 ≤ 2560) (hi : i + 5 ≤ X.1) (hL : LI w n k) (hN : ∀ w n k, LI w n k → gEv (gT X) 8 796 [.retAddr 0, .ref 0, .ref 24, .int (nI i)] [] n k w Q) : gEv (gT X) 8 536 [.retAddr 0, .ref 0, .ref 24, .int (nI i)] [] n k w Q := by
  have g0 := LI_0 hL
  have v1 : vp_in (nI (i + 1)) X.1 := vp_in_nI (by omega) (by omega)
  have v2 : vp_in (nI (i + 2)) X.1 := vp_in_nI (by omega) (by omega)
  have v3 : vp_in (nI (i + 3)) X.1 := vp_in_nI (by omega) (by omega)
  have v4 : vp_in (nI (i + 4)) X.1 := vp_in_nI (by omega) (by omega)
  simp only [eL_law_536, eL_law_537, eL_law_538, eL_law_539, eL_law_540, eL_law_541, eL_law_542, eL_law_543, eL_law_544, eL_law_545, eL_law_546, eL_law_547, eL_law_548, eL_law_549, eL_law_550, eL_law_551, eL_law_552, eL_law_553, eL_law_554, eL_law_555, eL_law_556, eL_law_557, Option.toList_some, Option.toList_none, List.cons_append, List.nil_append, gcat_nil, gcat_cons, cat_int, cat_ref, cat_null, cat_ret, cat_long, grc_ref, narZ0, narZ1, true_and, and_true, decide_true, Nat.reduceAdd, Nat.reduceLeDiff, if_true, if_false, eq_self, gfld_in, gobj_in, garr_in, garq_in, glen_in, gisO_in, ex_some, List.getElem?_cons_succ, List.getElem?_cons_zero, List.length_cons, List.length_nil, List.set_cons_succ, List.set_cons_zero, Nat.reduceLT, va_up_eq, va_up_nl, g0, nI_1, nIp2, nIp3, nIp4, v1, v2, v3, v4, nI_clamp (show i + 1 < 2 ^ 31 by omega), nI_clamp (show i + 2 < 2 ^ 31 by omega), nI_clamp (show i + 3 < 2 ^ 31 by omega), nI_clamp (show i + 4 < 2 ^ 31 by omega)]
  refine gEv.mono (s_coin hL) ?_
  rintro v n1 k1 w1 ⟨r, rfl, h6, h2⟩
  simp only [eL_law_560, eL_law_561, eL_law_562, eL_law_563, eL_law_564, eL_law_565, eL_law_566, eL_law_567, eL_law_568, eL_law_569, eL_law_570, eL_law_571, eL_law_572, eL_law_573, eL_law_574, eL_law_575, eL_law_576, eL_law_577, eL_law_578, eL_law_579, eL_law_580, eL_law_581, Option.toList_some, Option.toList_none, List.cons_append, List.nil_append, gcat_nil, gcat_cons, cat_int, cat_ref, cat_null, cat_ret, cat_long, grc_ref, narZ0, narZ1, true_and, and_true, decide_true, Nat.reduceAdd, Nat.reduceLeDiff, if_true, if_false, eq_self, gfld_in, gobj_in, garr_in, garq_in, glen_in, gisO_in, ex_some, List.getElem?_cons_succ, List.getElem?_cons_zero, List.length_cons, List.length_nil, List.set_cons_succ, List.set_cons_zero, Nat.reduceLT, va_up_eq, va_up_nl, h6, nI_1, nIp2, nIp3, nIp4, v1, v2, v3, v4, nI_clamp (show i + 1 < 2 ^ 31 by omega), nI_clamp (show i + 2 < 2 ^ 31 by omega), nI_clamp (show i + 3 < 2 ^ 31 by omega), nI_clamp (show i + 4 < 2 ^ 31 by omega)]
  refine gEv.mono h2 ?_
  rintro v2 n2 k2 w2 ⟨rfl, hL2⟩
  simp only [eL_law_584, Option.toList_some, Option.toList_none, List.cons_append, List.nil_append, gcat_nil, gcat_cons, cat_int, cat_ref, cat_null, cat_ret, cat_long, grc_ref, narZ0, narZ1, true_and, and_true, decide_true, Nat.reduceAdd, Nat.reduceLeDiff, if_true, if_false, eq_self, gfld_in, gobj_in, garr_in, garq_in, glen_in, gisO_in, ex_some, List.getElem?_cons_succ, List.getElem?_cons_zero, List.length_cons, List.length_nil, List.set_cons_succ, List.set_cons_zero, Nat.reduceLT, va_up_eq, va_up_nl]
  exact hN _ _ _ hL2
theorem lw_track (hX : X.1 ≤ 2560) (hi : i + 5 ≤ X.1) (hL : LI w n k) (hN : ∀ w n k, LI w n k → gEv (gT X) 8 796 [.retAddr 0, .ref 0, .ref 24, .int (nI i)] [] n k w Q) : gEv (gT X) 8 589 [.retAddr 0, .ref 0, .ref 24, .int (nI i)] [] n k w Q := by
  have g0 := LI_0 hL
  have v1 : vp_in (nI (i + 1)) X.1 := vp_in_nI (by omega) (by omega)
  simp only [eL_law_589, eL_law_590, eL_law_591, eL_law_592, eL_law_593, eL_law_594, eL_law_595, Option.toList_some, Option.toList_none, List.cons_append, List.nil_append, gcat_nil, gcat_cons, cat_int, cat_ref, cat_null, cat_ret, cat_long, grc_ref, narZ0, narZ1, true_and, and_true, decide_true, Nat.reduceAdd, Nat.reduceLeDiff, if_true, if_false, eq_self, gfld_in, gobj_in, garr_in, garq_in, glen_in, gisO_in, ex_some, List.getElem?_cons_succ, List.getElem?_cons_zero, List.length_cons, List.length_nil, List.set_cons_succ, List.set_cons_zero, Nat.reduceLT, va_up_eq, va_up_nl, g0, nI_1, v1, nI_clamp (show i + 1 < 2 ^ 31 by omega)]
  refine gEv.mono (s_track hL) ?_
  rintro v n1 k1 w1 ⟨r, rfl, h6, h2⟩
  simp only [eL_law_598, eL_law_599, eL_law_600, eL_law_601, eL_law_602, eL_law_603, eL_law_604, Option.toList_some, Option.toList_none, List.cons_append, List.nil_append, gcat_nil, gcat_cons, cat_int, cat_ref, cat_null, cat_ret, cat_long, grc_ref, narZ0, narZ1, true_and, and_true, decide_true, Nat.reduceAdd, Nat.reduceLeDiff, if_true, if_false, eq_self, gfld_in, gobj_in, garr_in, garq_in, glen_in, gisO_in, ex_some, List.getElem?_cons_succ, List.getElem?_cons_zero, List.length_cons, List.length_nil, List.set_cons_succ, List.set_cons_zero, Nat.reduceLT, va_up_eq, va_up_nl, h6, nI_1, v1, nI_clamp (show i + 1 < 2 ^ 31 by omega)]
  refine gEv.mono h2 ?_
  rintro v2 n2 k2 w2 ⟨rfl, hL2⟩
  simp only [eL_law_607, Option.toList_some, Option.toList_none, List.cons_append, List.nil_append, gcat_nil, gcat_cons, cat_int, cat_ref, cat_null, cat_ret, cat_long, grc_ref, narZ0, narZ1, true_and, and_true, decide_true, Nat.reduceAdd, Nat.reduceLeDiff, if_true, if_false, eq_self, gfld_in, gobj_in, garr_in, garq_in, glen_in, gisO_in, ex_some, List.getElem?_cons_succ, List.getElem?_cons_zero, List.length_cons, List.length_nil, List.set_cons_succ, List.set_cons_zero, Nat.reduceLT, va_up_eq, va_up_nl]
  exact hN _ _ _ hL2
theorem lw_order (hX : X.1 ≤ 2560) (hi : i + 5 ≤ X.1) (hL : LI w n k) (hN : ∀ w n k, LI w n k → gEv (gT X) 8 796 [.retAddr 0, .ref 0, .ref 24, .int (nI i)] [] n k w Q) : gEv (gT X) 8 612 [.retAddr 0, .ref 0, .ref 24, .int (nI i)] [] n k w Q := by
  have g0 := LI_0 hL
  have v1 : vp_in (nI (i + 1)) X.1 := vp_in_nI (by omega) (by omega)
  simp only [eL_law_612, eL_law_613, eL_law_614, eL_law_615, eL_law_616, eL_law_617, eL_law_618, Option.toList_some, Option.toList_none, List.cons_append, List.nil_append, gcat_nil, gcat_cons, cat_int, cat_ref, cat_null, cat_ret, cat_long, grc_ref, narZ0, narZ1, true_and, and_true, decide_true, Nat.reduceAdd, Nat.reduceLeDiff, if_true, if_false, eq_self, gfld_in, gobj_in, garr_in, garq_in, glen_in, gisO_in, ex_some, List.getElem?_cons_succ, List.getElem?_cons_zero, List.length_cons, List.length_nil, List.set_cons_succ, List.set_cons_zero, Nat.reduceLT, va_up_eq, va_up_nl, g0, nI_1, v1, nI_clamp (show i + 1 < 2 ^ 31 by omega)]
  refine gEv.mono (s_order hL) ?_
  rintro v n1 k1 w1 ⟨r, rfl, h6, h2⟩
  simp only [eL_law_621, eL_law_622, eL_law_623, eL_law_624, eL_law_625, eL_law_626, eL_law_627, Option.toList_some, Option.toList_none, List.cons_append, List.nil_append, gcat_nil, gcat_cons, cat_int, cat_ref, cat_null, cat_ret, cat_long, grc_ref, narZ0, narZ1, true_and, and_true, decide_true, Nat.reduceAdd, Nat.reduceLeDiff, if_true, if_false, eq_self, gfld_in, gobj_in, garr_in, garq_in, glen_in, gisO_in, ex_some, List.getElem?_cons_succ, List.getElem?_cons_zero, List.length_cons, List.length_nil, List.set_cons_succ, List.set_cons_zero, Nat.reduceLT, va_up_eq, va_up_nl, h6, nI_1, v1, nI_clamp (show i + 1 < 2 ^ 31 by omega)]
  refine gEv.mono h2 ?_
  rintro v2 n2 k2 w2 ⟨rfl, hL2⟩
  simp only [eL_law_630, Option.toList_some, Option.toList_none, List.cons_append, List.nil_append, gcat_nil, gcat_cons, cat_int, cat_ref, cat_null, cat_ret, cat_long, grc_ref, narZ0, narZ1, true_and, and_true, decide_true, Nat.reduceAdd, Nat.reduceLeDiff, if_true, if_false, eq_self, gfld_in, gobj_in, garr_in, garq_in, glen_in, gisO_in, ex_some, List.getElem?_cons_succ, List.getElem?_cons_zero, List.length_cons, List.length_nil, List.set_cons_succ, List.set_cons_zero, Nat.reduceLT, va_up_eq, va_up_nl]
  exact hN _ _ _ hL2
theorem lw_sees (hX : X.1 ≤ 2560) (hi : i + 5 ≤ X.1) (hL : LI w n k) (hN : ∀ w n k, LI w n k → gEv (gT X) 8 796 [.retAddr 0, .ref 0, .ref 24, .int (nI i)] [] n k w Q) : gEv (gT X) 8 635 [.retAddr 0, .ref 0, .ref 24, .int (nI i)] [] n k w Q := by
  have g0 := LI_0 hL
  have v1 : vp_in (nI (i + 1)) X.1 := vp_in_nI (by omega) (by omega)
  have v2 : vp_in (nI (i + 2)) X.1 := vp_in_nI (by omega) (by omega)
  have v3 : vp_in (nI (i + 3)) X.1 := vp_in_nI (by omega) (by omega)
  simp only [eL_law_635, eL_law_636, eL_law_637, eL_law_638, eL_law_639, eL_law_640, eL_law_641, eL_law_642, eL_law_643, eL_law_644, eL_law_645, eL_law_646, eL_law_647, eL_law_648, eL_law_649, eL_law_650, eL_law_651, Option.toList_some, Option.toList_none, List.cons_append, List.nil_append, gcat_nil, gcat_cons, cat_int, cat_ref, cat_null, cat_ret, cat_long, grc_ref, narZ0, narZ1, true_and, and_true, decide_true, Nat.reduceAdd, Nat.reduceLeDiff, if_true, if_false, eq_self, gfld_in, gobj_in, garr_in, garq_in, glen_in, gisO_in, ex_some, List.getElem?_cons_succ, List.getElem?_cons_zero, List.length_cons, List.length_nil, List.set_cons_succ, List.set_cons_zero, Nat.reduceLT, va_up_eq, va_up_nl, g0, nI_1, nIp2, nIp3, v1, v2, v3, nI_clamp (show i + 1 < 2 ^ 31 by omega), nI_clamp (show i + 2 < 2 ^ 31 by omega), nI_clamp (show i + 3 < 2 ^ 31 by omega)]
  refine gEv.mono (s_sees hL) ?_
  rintro v n1 k1 w1 ⟨r, rfl, h6, h2⟩
  simp only [eL_law_654, eL_law_655, eL_law_656, eL_law_657, eL_law_658, eL_law_659, eL_law_660, eL_law_661, eL_law_662, eL_law_663, eL_law_664, eL_law_665, eL_law_666, eL_law_667, eL_law_668, eL_law_669, eL_law_670, Option.toList_some, Option.toList_none, List.cons_append, List.nil_append, gcat_nil, gcat_cons, cat_int, cat_ref, cat_null, cat_ret, cat_long, grc_ref, narZ0, narZ1, true_and, and_true, decide_true, Nat.reduceAdd, Nat.reduceLeDiff, if_true, if_false, eq_self, gfld_in, gobj_in, garr_in, garq_in, glen_in, gisO_in, ex_some, List.getElem?_cons_succ, List.getElem?_cons_zero, List.length_cons, List.length_nil, List.set_cons_succ, List.set_cons_zero, Nat.reduceLT, va_up_eq, va_up_nl, h6, nI_1, nIp2, nIp3, v1, v2, v3, nI_clamp (show i + 1 < 2 ^ 31 by omega), nI_clamp (show i + 2 < 2 ^ 31 by omega), nI_clamp (show i + 3 < 2 ^ 31 by omega)]
  refine gEv.mono h2 ?_
  rintro v2 n2 k2 w2 ⟨rfl, hL2⟩
  simp only [eL_law_673, Option.toList_some, Option.toList_none, List.cons_append, List.nil_append, gcat_nil, gcat_cons, cat_int, cat_ref, cat_null, cat_ret, cat_long, grc_ref, narZ0, narZ1, true_and, and_true, decide_true, Nat.reduceAdd, Nat.reduceLeDiff, if_true, if_false, eq_self, gfld_in, gobj_in, garr_in, garq_in, glen_in, gisO_in, ex_some, List.getElem?_cons_succ, List.getElem?_cons_zero, List.length_cons, List.length_nil, List.set_cons_succ, List.set_cons_zero, Nat.reduceLT, va_up_eq, va_up_nl]
  exact hN _ _ _ hL2
theorem lw_forget (hX : X.1 ≤ 2560) (hi : i + 5 ≤ X.1) (hL : LI w n k) (hN : ∀ w n k, LI w n k → gEv (gT X) 8 796 [.retAddr 0, .ref 0, .ref 24, .int (nI i)] [] n k w Q) : gEv (gT X) 8 678 [.retAddr 0, .ref 0, .ref 24, .int (nI i)] [] n k w Q := by
  have g0 := LI_0 hL
  simp only [eL_law_678, eL_law_679, Option.toList_some, Option.toList_none, List.cons_append, List.nil_append, gcat_nil, gcat_cons, cat_int, cat_ref, cat_null, cat_ret, cat_long, grc_ref, narZ0, narZ1, true_and, and_true, decide_true, Nat.reduceAdd, Nat.reduceLeDiff, if_true, if_false, eq_self, gfld_in, gobj_in, garr_in, garq_in, glen_in, gisO_in, ex_some, List.getElem?_cons_succ, List.getElem?_cons_zero, List.length_cons, List.length_nil, List.set_cons_succ, List.set_cons_zero, Nat.reduceLT, va_up_eq, va_up_nl, g0]
  refine gEv.mono (s_forget hL) ?_
  rintro v n1 k1 w1 ⟨r, rfl, h6, h2⟩
  simp only [eL_law_682, eL_law_683, Option.toList_some, Option.toList_none, List.cons_append, List.nil_append, gcat_nil, gcat_cons, cat_int, cat_ref, cat_null, cat_ret, cat_long, grc_ref, narZ0, narZ1, true_and, and_true, decide_true, Nat.reduceAdd, Nat.reduceLeDiff, if_true, if_false, eq_self, gfld_in, gobj_in, garr_in, garq_in, glen_in, gisO_in, ex_some, List.getElem?_cons_succ, List.getElem?_cons_zero, List.length_cons, List.length_nil, List.set_cons_succ, List.set_cons_zero, Nat.reduceLT, va_up_eq, va_up_nl, h6]
  refine gEv.mono h2 ?_
  rintro v2 n2 k2 w2 ⟨rfl, hL2⟩
  simp only [eL_law_686, Option.toList_some, Option.toList_none, List.cons_append, List.nil_append, gcat_nil, gcat_cons, cat_int, cat_ref, cat_null, cat_ret, cat_long, grc_ref, narZ0, narZ1, true_and, and_true, decide_true, Nat.reduceAdd, Nat.reduceLeDiff, if_true, if_false, eq_self, gfld_in, gobj_in, garr_in, garq_in, glen_in, gisO_in, ex_some, List.getElem?_cons_succ, List.getElem?_cons_zero, List.length_cons, List.length_nil, List.set_cons_succ, List.set_cons_zero, Nat.reduceLT, va_up_eq, va_up_nl]
  exact hN _ _ _ hL2
theorem lw_suspects (hX : X.1 ≤ 2560) (hi : i + 5 ≤ X.1) (hL : LI w n k) (hN : ∀ w n k, LI w n k → gEv (gT X) 8 796 [.retAddr 0, .ref 0, .ref 24, .int (nI i)] [] n k w Q) : gEv (gT X) 8 691 [.retAddr 0, .ref 0, .ref 24, .int (nI i)] [] n k w Q := by
  have g0 := LI_0 hL
  have v1 : vp_in (nI (i + 1)) X.1 := vp_in_nI (by omega) (by omega)
  simp only [eL_law_691, eL_law_692, eL_law_693, eL_law_694, eL_law_695, eL_law_696, eL_law_697, Option.toList_some, Option.toList_none, List.cons_append, List.nil_append, gcat_nil, gcat_cons, cat_int, cat_ref, cat_null, cat_ret, cat_long, grc_ref, narZ0, narZ1, true_and, and_true, decide_true, Nat.reduceAdd, Nat.reduceLeDiff, if_true, if_false, eq_self, gfld_in, gobj_in, garr_in, garq_in, glen_in, gisO_in, ex_some, List.getElem?_cons_succ, List.getElem?_cons_zero, List.length_cons, List.length_nil, List.set_cons_succ, List.set_cons_zero, Nat.reduceLT, va_up_eq, va_up_nl, g0, nI_1, v1, nI_clamp (show i + 1 < 2 ^ 31 by omega)]
  refine gEv.mono (s_suspects hL) ?_
  rintro v n1 k1 w1 ⟨r, rfl, h6, h2⟩
  simp only [eL_law_700, eL_law_701, eL_law_702, eL_law_703, eL_law_704, eL_law_705, eL_law_706, Option.toList_some, Option.toList_none, List.cons_append, List.nil_append, gcat_nil, gcat_cons, cat_int, cat_ref, cat_null, cat_ret, cat_long, grc_ref, narZ0, narZ1, true_and, and_true, decide_true, Nat.reduceAdd, Nat.reduceLeDiff, if_true, if_false, eq_self, gfld_in, gobj_in, garr_in, garq_in, glen_in, gisO_in, ex_some, List.getElem?_cons_succ, List.getElem?_cons_zero, List.length_cons, List.length_nil, List.set_cons_succ, List.set_cons_zero, Nat.reduceLT, va_up_eq, va_up_nl, h6, nI_1, v1, nI_clamp (show i + 1 < 2 ^ 31 by omega)]
  refine gEv.mono h2 ?_
  rintro v2 n2 k2 w2 ⟨rfl, hL2⟩
  simp only [eL_law_709, Option.toList_some, Option.toList_none, List.cons_append, List.nil_append, gcat_nil, gcat_cons, cat_int, cat_ref, cat_null, cat_ret, cat_long, grc_ref, narZ0, narZ1, true_and, and_true, decide_true, Nat.reduceAdd, Nat.reduceLeDiff, if_true, if_false, eq_self, gfld_in, gobj_in, garr_in, garq_in, glen_in, gisO_in, ex_some, List.getElem?_cons_succ, List.getElem?_cons_zero, List.length_cons, List.length_nil, List.set_cons_succ, List.set_cons_zero, Nat.reduceLT, va_up_eq, va_up_nl]
  exact hN _ _ _ hL2
theorem lw_look (hX : X.1 ≤ 2560) (hi : i + 5 ≤ X.1) (hL : LI w n k) (hN : ∀ w n k, LI w n k → gEv (gT X) 8 796 [.retAddr 0, .ref 0, .ref 24, .int (nI i)] [] n k w Q) : gEv (gT X) 8 714 [.retAddr 0, .ref 0, .ref 24, .int (nI i)] [] n k w Q := by
  have g0 := LI_0 hL
  simp only [eL_law_714, eL_law_715, Option.toList_some, Option.toList_none, List.cons_append, List.nil_append, gcat_nil, gcat_cons, cat_int, cat_ref, cat_null, cat_ret, cat_long, grc_ref, narZ0, narZ1, true_and, and_true, decide_true, Nat.reduceAdd, Nat.reduceLeDiff, if_true, if_false, eq_self, gfld_in, gobj_in, garr_in, garq_in, glen_in, gisO_in, ex_some, List.getElem?_cons_succ, List.getElem?_cons_zero, List.length_cons, List.length_nil, List.set_cons_succ, List.set_cons_zero, Nat.reduceLT, va_up_eq, va_up_nl, g0]
  refine gEv.mono (s_look hL) ?_
  rintro v n1 k1 w1 ⟨r, rfl, h6, h2⟩
  simp only [eL_law_718, eL_law_719, Option.toList_some, Option.toList_none, List.cons_append, List.nil_append, gcat_nil, gcat_cons, cat_int, cat_ref, cat_null, cat_ret, cat_long, grc_ref, narZ0, narZ1, true_and, and_true, decide_true, Nat.reduceAdd, Nat.reduceLeDiff, if_true, if_false, eq_self, gfld_in, gobj_in, garr_in, garq_in, glen_in, gisO_in, ex_some, List.getElem?_cons_succ, List.getElem?_cons_zero, List.length_cons, List.length_nil, List.set_cons_succ, List.set_cons_zero, Nat.reduceLT, va_up_eq, va_up_nl, h6]
  refine gEv.mono h2 ?_
  rintro v2 n2 k2 w2 ⟨rfl, hL2⟩
  simp only [eL_law_722, Option.toList_some, Option.toList_none, List.cons_append, List.nil_append, gcat_nil, gcat_cons, cat_int, cat_ref, cat_null, cat_ret, cat_long, grc_ref, narZ0, narZ1, true_and, and_true, decide_true, Nat.reduceAdd, Nat.reduceLeDiff, if_true, if_false, eq_self, gfld_in, gobj_in, garr_in, garq_in, glen_in, gisO_in, ex_some, List.getElem?_cons_succ, List.getElem?_cons_zero, List.length_cons, List.length_nil, List.set_cons_succ, List.set_cons_zero, Nat.reduceLT, va_up_eq, va_up_nl]
  exact hN _ _ _ hL2
theorem lw_keep (hX : X.1 ≤ 2560) (hi : i + 5 ≤ X.1) (hL : LI w n k) (hN : ∀ w n k, LI w n k → gEv (gT X) 8 796 [.retAddr 0, .ref 0, .ref 24, .int (nI i)] [] n k w Q) : gEv (gT X) 8 727 [.retAddr 0, .ref 0, .ref 24, .int (nI i)] [] n k w Q := by
  have g0 := LI_0 hL
  have v1 : vp_in (nI (i + 1)) X.1 := vp_in_nI (by omega) (by omega)
  simp only [eL_law_727, eL_law_728, eL_law_729, eL_law_730, eL_law_731, eL_law_732, eL_law_733, Option.toList_some, Option.toList_none, List.cons_append, List.nil_append, gcat_nil, gcat_cons, cat_int, cat_ref, cat_null, cat_ret, cat_long, grc_ref, narZ0, narZ1, true_and, and_true, decide_true, Nat.reduceAdd, Nat.reduceLeDiff, if_true, if_false, eq_self, gfld_in, gobj_in, garr_in, garq_in, glen_in, gisO_in, ex_some, List.getElem?_cons_succ, List.getElem?_cons_zero, List.length_cons, List.length_nil, List.set_cons_succ, List.set_cons_zero, Nat.reduceLT, va_up_eq, va_up_nl, g0, nI_1, v1, nI_clamp (show i + 1 < 2 ^ 31 by omega)]
  refine gEv.mono (s_keep hL) ?_
  rintro v n1 k1 w1 ⟨r, rfl, h6, h2⟩
  simp only [eL_law_736, eL_law_737, eL_law_738, eL_law_739, eL_law_740, eL_law_741, eL_law_742, Option.toList_some, Option.toList_none, List.cons_append, List.nil_append, gcat_nil, gcat_cons, cat_int, cat_ref, cat_null, cat_ret, cat_long, grc_ref, narZ0, narZ1, true_and, and_true, decide_true, Nat.reduceAdd, Nat.reduceLeDiff, if_true, if_false, eq_self, gfld_in, gobj_in, garr_in, garq_in, glen_in, gisO_in, ex_some, List.getElem?_cons_succ, List.getElem?_cons_zero, List.length_cons, List.length_nil, List.set_cons_succ, List.set_cons_zero, Nat.reduceLT, va_up_eq, va_up_nl, h6, nI_1, v1, nI_clamp (show i + 1 < 2 ^ 31 by omega)]
  refine gEv.mono h2 ?_
  rintro v2 n2 k2 w2 ⟨rfl, hL2⟩
  simp only [eL_law_745, Option.toList_some, Option.toList_none, List.cons_append, List.nil_append, gcat_nil, gcat_cons, cat_int, cat_ref, cat_null, cat_ret, cat_long, grc_ref, narZ0, narZ1, true_and, and_true, decide_true, Nat.reduceAdd, Nat.reduceLeDiff, if_true, if_false, eq_self, gfld_in, gobj_in, garr_in, garq_in, glen_in, gisO_in, ex_some, List.getElem?_cons_succ, List.getElem?_cons_zero, List.length_cons, List.length_nil, List.set_cons_succ, List.set_cons_zero, Nat.reduceLT, va_up_eq, va_up_nl]
  exact hN _ _ _ hL2
theorem lw_back (hX : X.1 ≤ 2560) (hi : i + 5 ≤ X.1) (hL : LI w n k) (hN : ∀ w n k, LI w n k → gEv (gT X) 8 796 [.retAddr 0, .ref 0, .ref 24, .int (nI i)] [] n k w Q) : gEv (gT X) 8 750 [.retAddr 0, .ref 0, .ref 24, .int (nI i)] [] n k w Q := by
  have g0 := LI_0 hL
  have v1 : vp_in (nI (i + 1)) X.1 := vp_in_nI (by omega) (by omega)
  simp only [eL_law_750, eL_law_751, eL_law_752, eL_law_753, eL_law_754, eL_law_755, eL_law_756, Option.toList_some, Option.toList_none, List.cons_append, List.nil_append, gcat_nil, gcat_cons, cat_int, cat_ref, cat_null, cat_ret, cat_long, grc_ref, narZ0, narZ1, true_and, and_true, decide_true, Nat.reduceAdd, Nat.reduceLeDiff, if_true, if_false, eq_self, gfld_in, gobj_in, garr_in, garq_in, glen_in, gisO_in, ex_some, List.getElem?_cons_succ, List.getElem?_cons_zero, List.length_cons, List.length_nil, List.set_cons_succ, List.set_cons_zero, Nat.reduceLT, va_up_eq, va_up_nl, g0, nI_1, v1, nI_clamp (show i + 1 < 2 ^ 31 by omega)]
  refine gEv.mono (s_back hL) ?_
  rintro v n1 k1 w1 ⟨r, rfl, h6, h2⟩
  simp only [eL_law_759, eL_law_760, eL_law_761, eL_law_762, eL_law_763, eL_law_764, eL_law_765, Option.toList_some, Option.toList_none, List.cons_append, List.nil_append, gcat_nil, gcat_cons, cat_int, cat_ref, cat_null, cat_ret, cat_long, grc_ref, narZ0, narZ1, true_and, and_true, decide_true, Nat.reduceAdd, Nat.reduceLeDiff, if_true, if_false, eq_self, gfld_in, gobj_in, garr_in, garq_in, glen_in, gisO_in, ex_some, List.getElem?_cons_succ, List.getElem?_cons_zero, List.length_cons, List.length_nil, List.set_cons_succ, List.set_cons_zero, Nat.reduceLT, va_up_eq, va_up_nl, h6, nI_1, v1, nI_clamp (show i + 1 < 2 ^ 31 by omega)]
  refine gEv.mono h2 ?_
  rintro v2 n2 k2 w2 ⟨rfl, hL2⟩
  simp only [eL_law_768, Option.toList_some, Option.toList_none, List.cons_append, List.nil_append, gcat_nil, gcat_cons, cat_int, cat_ref, cat_null, cat_ret, cat_long, grc_ref, narZ0, narZ1, true_and, and_true, decide_true, Nat.reduceAdd, Nat.reduceLeDiff, if_true, if_false, eq_self, gfld_in, gobj_in, garr_in, garq_in, glen_in, gisO_in, ex_some, List.getElem?_cons_succ, List.getElem?_cons_zero, List.length_cons, List.length_nil, List.set_cons_succ, List.set_cons_zero, Nat.reduceLT, va_up_eq, va_up_nl]
  exact hN _ _ _ hL2
theorem lw_count (hX : X.1 ≤ 2560) (hi : i + 5 ≤ X.1) (hL : LI w n k) (hN : ∀ w n k, LI w n k → gEv (gT X) 8 796 [.retAddr 0, .ref 0, .ref 24, .int (nI i)] [] n k w Q) : gEv (gT X) 8 773 [.retAddr 0, .ref 0, .ref 24, .int (nI i)] [] n k w Q := by
  have g0 := LI_0 hL
  have v1 : vp_in (nI (i + 1)) X.1 := vp_in_nI (by omega) (by omega)
  simp only [eL_law_773, eL_law_774, eL_law_775, eL_law_776, eL_law_777, eL_law_778, eL_law_779, Option.toList_some, Option.toList_none, List.cons_append, List.nil_append, gcat_nil, gcat_cons, cat_int, cat_ref, cat_null, cat_ret, cat_long, grc_ref, narZ0, narZ1, true_and, and_true, decide_true, Nat.reduceAdd, Nat.reduceLeDiff, if_true, if_false, eq_self, gfld_in, gobj_in, garr_in, garq_in, glen_in, gisO_in, ex_some, List.getElem?_cons_succ, List.getElem?_cons_zero, List.length_cons, List.length_nil, List.set_cons_succ, List.set_cons_zero, Nat.reduceLT, va_up_eq, va_up_nl, g0, nI_1, v1, nI_clamp (show i + 1 < 2 ^ 31 by omega)]
  refine gEv.mono (s_count hL) ?_
  rintro v n1 k1 w1 ⟨r, rfl, h6, h2⟩
  simp only [eL_law_782, eL_law_783, eL_law_784, eL_law_785, eL_law_786, eL_law_787, eL_law_788, Option.toList_some, Option.toList_none, List.cons_append, List.nil_append, gcat_nil, gcat_cons, cat_int, cat_ref, cat_null, cat_ret, cat_long, grc_ref, narZ0, narZ1, true_and, and_true, decide_true, Nat.reduceAdd, Nat.reduceLeDiff, if_true, if_false, eq_self, gfld_in, gobj_in, garr_in, garq_in, glen_in, gisO_in, ex_some, List.getElem?_cons_succ, List.getElem?_cons_zero, List.length_cons, List.length_nil, List.set_cons_succ, List.set_cons_zero, Nat.reduceLT, va_up_eq, va_up_nl, h6, nI_1, v1, nI_clamp (show i + 1 < 2 ^ 31 by omega)]
  refine gEv.mono h2 ?_
  rintro v2 n2 k2 w2 ⟨rfl, hL2⟩
  simp only [eL_law_791, Option.toList_some, Option.toList_none, List.cons_append, List.nil_append, gcat_nil, gcat_cons, cat_int, cat_ref, cat_null, cat_ret, cat_long, grc_ref, narZ0, narZ1, true_and, and_true, decide_true, Nat.reduceAdd, Nat.reduceLeDiff, if_true, if_false, eq_self, gfld_in, gobj_in, garr_in, garq_in, glen_in, gisO_in, ex_some, List.getElem?_cons_succ, List.getElem?_cons_zero, List.length_cons, List.length_nil, List.set_cons_succ, List.set_cons_zero, Nat.reduceLT, va_up_eq, va_up_nl]
  exact hN _ _ _ hL2
end LC
section LD
variable {X : gX} {Q : Option Value → Nat → Nat → gH → Prop}
theorem lw_out : ∀ m, m < 32 → 24 ≤ m → gtab 32 764 0 [112, 135, 148, 161, 194, 207, 230, 283, 306, 339, 392, 405, 438, 471, 504, 557, 580, 603, 646, 659, 682, 695, 718, 741] (nI m) = 796 := by decide
theorem lw_end {L i : Nat} (hL : L ≤ 2560) (hi : i ≤ L) : (Int32.ofNat L - 5 < nI i) ↔ L < i + 5 := by
  show (nI L - 5 < nI i) ↔ L < i + 5
  by_cases q : L < 5
  · have h1 : nI L - nI 5 < 0 := pk_sneg (by omega) q
    have h2 : nI L - 5 < 0 := h1
    exact ⟨fun _ => by omega, fun _ => Int32.lt_of_lt_of_le h2 (nI_pos' (by omega))⟩
  · have h1 : nI L - nI 5 = nI (L - 5) := nI_sub (by omega)
    have h2 : nI L - 5 = nI (L - 5) := h1
    rw [h2]
    by_cases z : L < i + 5
    · exact ⟨fun _ => z, fun _ => nI_lt (by omega) (by omega)⟩
    · exact ⟨fun y => absurd y (nI_nlt (by omega) (by omega)), fun y => absurd y z⟩
theorem lw_loop (hX : X.1 ≤ 2560) (hQ : ∀ w n k, LI w n k → Q (some (.int 1)) n k w) : ∀ (D i : Nat) (w : gH) (n k : Nat), X.1 ≤ i + 5 * D → i ≤ X.1 → LI w n k → gEv (gT X) 8 18 [.retAddr 0, .ref 0, .ref 24, .int (nI i)] [] n k w Q := by
  have fin : ∀ (i : Nat) (w : gH) (n k : Nat), X.1 < i + 5 → i ≤ X.1 → LI w n k → gEv (gT X) 8 18 [.retAddr 0, .ref 0, .ref 24, .int (nI i)] [] n k w Q := by
    intro i w n k h1 h2 hL
    have hc := (lw_end hX h2).mpr h1
    rw [eL_law_18]
    simp only [eL_law_19, eL_law_20, eL_law_21, eL_law_22, eL_law_23, eL_law_802, eL_law_803, Option.toList_some, Option.toList_none, List.cons_append, List.nil_append, gcat_nil, gcat_cons, cat_int, cat_ref, cat_null, cat_ret, cat_long, grc_ref, narZ0, narZ1, true_and, and_true, decide_true, Nat.reduceAdd, Nat.reduceLeDiff, if_true, if_false, eq_self, gfld_in, gobj_in, garr_in, garq_in, glen_in, gisO_in, ex_some, List.getElem?_cons_succ, List.getElem?_cons_zero, List.length_cons, List.length_nil, List.set_cons_succ, List.set_cons_zero, Nat.reduceLT, va_up_eq, va_up_nl, hc]
    exact hQ _ _ _ hL
  intro D
  induction D with
  | zero => intro i w n k h1 h2 hL; exact fin i w n k (by omega) h2 hL
  | succ D ih =>
    intro i w n k h1 h2 hL
    by_cases q : X.1 < i + 5
    · exact fin i w n k q h2 hL
    · have hc : ¬ Int32.ofNat X.1 - 5 < nI i := fun z => q ((lw_end hX h2).mp z)
      have hN : ∀ w n k, LI w n k → gEv (gT X) 8 796 [.retAddr 0, .ref 0, .ref 24, .int (nI i)] [] n k w Q := by
        intro w n k hL
        have e5 : nI i + 5 = nI (i + 5) := nI_add i 5
        simp only [eL_law_796, eL_law_796b, eL_law_796c, eL_law_796d, eL_law_799, Option.toList_some, Option.toList_none, List.cons_append, List.nil_append, gcat_nil, gcat_cons, cat_int, cat_ref, cat_null, cat_ret, cat_long, grc_ref, narZ0, narZ1, true_and, and_true, decide_true, Nat.reduceAdd, Nat.reduceLeDiff, if_true, if_false, eq_self, gfld_in, gobj_in, garr_in, garq_in, glen_in, gisO_in, ex_some, List.getElem?_cons_succ, List.getElem?_cons_zero, List.length_cons, List.length_nil, List.set_cons_succ, List.set_cons_zero, Nat.reduceLT, va_up_eq, va_up_nl, e5]
        exact ih (i + 5) w n k (by omega) (by omega) hL
      have v0 : vp_in (nI i) X.1 := vp_in_nI (by omega) (by omega)
      obtain ⟨m, hm, em⟩ := and_31 (X.2 i)
      rw [eL_law_18]
      simp only [eL_law_19, eL_law_20, eL_law_21, eL_law_22, eL_law_23, eL_law_26, eL_law_27, eL_law_28, eL_law_29, eL_law_31, eL_law_32, Option.toList_some, Option.toList_none, List.cons_append, List.nil_append, gcat_nil, gcat_cons, cat_int, cat_ref, cat_null, cat_ret, cat_long, grc_ref, narZ0, narZ1, true_and, and_true, decide_true, Nat.reduceAdd, Nat.reduceLeDiff, if_true, if_false, eq_self, gfld_in, gobj_in, garr_in, garq_in, glen_in, gisO_in, ex_some, List.getElem?_cons_succ, List.getElem?_cons_zero, List.length_cons, List.length_nil, List.set_cons_succ, List.set_cons_zero, Nat.reduceLT, va_up_eq, va_up_nl, hc, v0, nI_clamp (show i < 2 ^ 31 by omega), em]
      have hi : i + 5 ≤ X.1 := by omega
      have hmc : 24 ≤ m ∨ m = 0 ∨ m = 1 ∨ m = 2 ∨ m = 3 ∨ m = 4 ∨ m = 5 ∨ m = 6 ∨ m = 7 ∨ m = 8 ∨ m = 9 ∨ m = 10 ∨ m = 11 ∨ m = 12 ∨ m = 13 ∨ m = 14 ∨ m = 15 ∨ m = 16 ∨ m = 17 ∨ m = 18 ∨ m = 19 ∨ m = 20 ∨ m = 21 ∨ m = 22 ∨ m = 23 := by omega
      rcases hmc with h | rfl | rfl | rfl | rfl | rfl | rfl | rfl | rfl | rfl | rfl | rfl | rfl | rfl | rfl | rfl | rfl | rfl | rfl | rfl | rfl | rfl | rfl | rfl | rfl
      · rw [lw_out m hm h]
        exact hN w n k hL
      · have e : gtab 32 764 0 [112, 135, 148, 161, 194, 207, 230, 283, 306, 339, 392, 405, 438, 471, 504, 557, 580, 603, 646, 659, 682, 695, 718, 741] (nI 0) = 144 := by decide
        rw [e]
        exact lw_type hX hi hL hN
      · have e : gtab 32 764 0 [112, 135, 148, 161, 194, 207, 230, 283, 306, 339, 392, 405, 438, 471, 504, 557, 580, 603, 646, 659, 682, 695, 718, 741] (nI 1) = 167 := by decide
        rw [e]
        exact lw_clear hX hi hL hN
      · have e : gtab 32 764 0 [112, 135, 148, 161, 194, 207, 230, 283, 306, 339, 392, 405, 438, 471, 504, 557, 580, 603, 646, 659, 682, 695, 718, 741] (nI 2) = 180 := by decide
        rw [e]
        exact lw_tells hX hi hL hN
      · have e : gtab 32 764 0 [112, 135, 148, 161, 194, 207, 230, 283, 306, 339, 392, 405, 438, 471, 504, 557, 580, 603, 646, 659, 682, 695, 718, 741] (nI 3) = 193 := by decide
        rw [e]
        exact lw_drops hX hi hL hN
      · have e : gtab 32 764 0 [112, 135, 148, 161, 194, 207, 230, 283, 306, 339, 392, 405, 438, 471, 504, 557, 580, 603, 646, 659, 682, 695, 718, 741] (nI 4) = 226 := by decide
        rw [e]
        exact lw_frees hX hi hL hN
      · have e : gtab 32 764 0 [112, 135, 148, 161, 194, 207, 230, 283, 306, 339, 392, 405, 438, 471, 504, 557, 580, 603, 646, 659, 682, 695, 718, 741] (nI 5) = 239 := by decide
        rw [e]
        exact lw_empties hX hi hL hN
      · have e : gtab 32 764 0 [112, 135, 148, 161, 194, 207, 230, 283, 306, 339, 392, 405, 438, 471, 504, 557, 580, 603, 646, 659, 682, 695, 718, 741] (nI 6) = 262 := by decide
        rw [e]
        exact lw_puts hX hi hL hN
      · have e : gtab 32 764 0 [112, 135, 148, 161, 194, 207, 230, 283, 306, 339, 392, 405, 438, 471, 504, 557, 580, 603, 646, 659, 682, 695, 718, 741] (nI 7) = 315 := by decide
        rw [e]
        exact lw_takes hX hi hL hN
      · have e : gtab 32 764 0 [112, 135, 148, 161, 194, 207, 230, 283, 306, 339, 392, 405, 438, 471, 504, 557, 580, 603, 646, 659, 682, 695, 718, 741] (nI 8) = 338 := by decide
        rw [e]
        exact lw_sets hX hi hL hN
      · have e : gtab 32 764 0 [112, 135, 148, 161, 194, 207, 230, 283, 306, 339, 392, 405, 438, 471, 504, 557, 580, 603, 646, 659, 682, 695, 718, 741] (nI 9) = 371 := by decide
        rw [e]
        exact lw_adds hX hi hL hN
      · have e : gtab 32 764 0 [112, 135, 148, 161, 194, 207, 230, 283, 306, 339, 392, 405, 438, 471, 504, 557, 580, 603, 646, 659, 682, 695, 718, 741] (nI 10) = 424 := by decide
        rw [e]
        exact lw_undo hX hi hL hN
      · have e : gtab 32 764 0 [112, 135, 148, 161, 194, 207, 230, 283, 306, 339, 392, 405, 438, 471, 504, 557, 580, 603, 646, 659, 682, 695, 718, 741] (nI 11) = 437 := by decide
        rw [e]
        exact lw_kind hX hi hL hN
      · have e : gtab 32 764 0 [112, 135, 148, 161, 194, 207, 230, 283, 306, 339, 392, 405, 438, 471, 504, 557, 580, 603, 646, 659, 682, 695, 718, 741] (nI 12) = 470 := by decide
        rw [e]
        exact lw_test hX hi hL hN
      · have e : gtab 32 764 0 [112, 135, 148, 161, 194, 207, 230, 283, 306, 339, 392, 405, 438, 471, 504, 557, 580, 603, 646, 659, 682, 695, 718, 741] (nI 13) = 503 := by decide
        rw [e]
        exact lw_bin hX hi hL hN
      · have e : gtab 32 764 0 [112, 135, 148, 161, 194, 207, 230, 283, 306, 339, 392, 405, 438, 471, 504, 557, 580, 603, 646, 659, 682, 695, 718, 741] (nI 14) = 536 := by decide
        rw [e]
        exact lw_coin hX hi hL hN
      · have e : gtab 32 764 0 [112, 135, 148, 161, 194, 207, 230, 283, 306, 339, 392, 405, 438, 471, 504, 557, 580, 603, 646, 659, 682, 695, 718, 741] (nI 15) = 589 := by decide
        rw [e]
        exact lw_track hX hi hL hN
      · have e : gtab 32 764 0 [112, 135, 148, 161, 194, 207, 230, 283, 306, 339, 392, 405, 438, 471, 504, 557, 580, 603, 646, 659, 682, 695, 718, 741] (nI 16) = 612 := by decide
        rw [e]
        exact lw_order hX hi hL hN
      · have e : gtab 32 764 0 [112, 135, 148, 161, 194, 207, 230, 283, 306, 339, 392, 405, 438, 471, 504, 557, 580, 603, 646, 659, 682, 695, 718, 741] (nI 17) = 635 := by decide
        rw [e]
        exact lw_sees hX hi hL hN
      · have e : gtab 32 764 0 [112, 135, 148, 161, 194, 207, 230, 283, 306, 339, 392, 405, 438, 471, 504, 557, 580, 603, 646, 659, 682, 695, 718, 741] (nI 18) = 678 := by decide
        rw [e]
        exact lw_forget hX hi hL hN
      · have e : gtab 32 764 0 [112, 135, 148, 161, 194, 207, 230, 283, 306, 339, 392, 405, 438, 471, 504, 557, 580, 603, 646, 659, 682, 695, 718, 741] (nI 19) = 691 := by decide
        rw [e]
        exact lw_suspects hX hi hL hN
      · have e : gtab 32 764 0 [112, 135, 148, 161, 194, 207, 230, 283, 306, 339, 392, 405, 438, 471, 504, 557, 580, 603, 646, 659, 682, 695, 718, 741] (nI 20) = 714 := by decide
        rw [e]
        exact lw_look hX hi hL hN
      · have e : gtab 32 764 0 [112, 135, 148, 161, 194, 207, 230, 283, 306, 339, 392, 405, 438, 471, 504, 557, 580, 603, 646, 659, 682, 695, 718, 741] (nI 21) = 727 := by decide
        rw [e]
        exact lw_keep hX hi hL hN
      · have e : gtab 32 764 0 [112, 135, 148, 161, 194, 207, 230, 283, 306, 339, 392, 405, 438, 471, 504, 557, 580, 603, 646, 659, 682, 695, 718, 741] (nI 22) = 750 := by decide
        rw [e]
        exact lw_back hX hi hL hN
      · have e : gtab 32 764 0 [112, 135, 148, 161, 194, 207, 230, 283, 306, 339, 392, 405, 438, 471, 504, 557, 580, 603, 646, 659, 682, 695, 718, 741] (nI 23) = 773 := by decide
        rw [e]
        exact lw_count hX hi hL hN
/-- the law, from its entry to its end -/
theorem lw_all (hX : X.1 ≤ 2560) {w : gH} : gEv (gT X) 8 0 [.retAddr 0, .null, .null, .null] [] 0 0 w (fun v n k _ => v = some (.int 1) ∧ n ≤ 68 ∧ k ≤ 100000) := by
  simp only [eL_law_0, eL_law_3, eL_law_3b, eL_law_4, Option.toList_some, Option.toList_none, List.cons_append, List.nil_append, gcat_nil, gcat_cons, cat_int, cat_ref, cat_null, cat_ret, cat_long, grc_ref, narZ0, narZ1, true_and, and_true, decide_true, Nat.reduceAdd, Nat.reduceLeDiff, if_true, if_false, eq_self, gfld_in, gobj_in, garr_in, garq_in, glen_in, gisO_in, ex_some, List.getElem?_cons_succ, List.getElem?_cons_zero, List.length_cons, List.length_nil, List.set_cons_succ, List.set_cons_zero, Nat.reduceLT, va_up_eq, va_up_nl, gisO_any]
  refine i_class (by simp [va_up]) ?_
  intro w1 hC
  simp only [eL_law_7, eL_law_7b, eL_law_7c, eL_law_7d, eL_law_8, eL_law_11, eL_law_11b, eL_law_12, Option.toList_some, Option.toList_none, List.cons_append, List.nil_append, gcat_nil, gcat_cons, cat_int, cat_ref, cat_null, cat_ret, cat_long, grc_ref, narZ0, narZ1, true_and, and_true, decide_true, Nat.reduceAdd, Nat.reduceLeDiff, if_true, if_false, eq_self, gfld_in, gobj_in, garr_in, garq_in, glen_in, gisO_in, ex_some, List.getElem?_cons_succ, List.getElem?_cons_zero, List.length_cons, List.length_nil, List.set_cons_succ, List.set_cons_zero, Nat.reduceLT, va_up_eq, va_up_nl, gisO_any]
  refine i_model (by simp [va_up]) ?_
  intro w2 nw rd hn hw
  simp only [eL_law_15, eL_law_15b, eL_law_15c, eL_law_15d, eL_law_16, eL_law_17, eL_law_17b, eL_law_17c, eL_law_17d, Option.toList_some, Option.toList_none, List.cons_append, List.nil_append, gcat_nil, gcat_cons, cat_int, cat_ref, cat_null, cat_ret, cat_long, grc_ref, narZ0, narZ1, true_and, and_true, decide_true, Nat.reduceAdd, Nat.reduceLeDiff, if_true, if_false, eq_self, gfld_in, gobj_in, garr_in, garq_in, glen_in, gisO_in, ex_some, List.getElem?_cons_succ, List.getElem?_cons_zero, List.length_cons, List.length_nil, List.set_cons_succ, List.set_cons_zero, Nat.reduceLT, va_up_eq, va_up_nl]
  refine lw_loop hX (fun w n k hL => ⟨rfl, LI_nk hL⟩) X.1 0 _ _ _ (by omega) (by omega) ?_
  exact LI_new hC (fun a ha => by rw [hw a ha, up_lit (by omega)]) hn (by omega)
end LD
