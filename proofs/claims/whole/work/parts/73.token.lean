/-! THE TELLER: tokens -/
def tPl (tv : Nat → Nat) (s e : Nat) : Prop := e - s = 1 ∨ (e - s = 2 ∧ ¬ tv s = 48)
def tCk (tv : Nat → Nat) (l s : Nat) : Int32 := if l ≤ s then 0 else if tLet tv s then 1 else if tFig tv s then (if s + 2 < tFe tv l s ∨ (tv s = 48 ∧ s + 1 < tFe tv l s) then 4 else 2) else if tv s = 59 then 3 else 4
section TD
variable {X : gX} {n k : Nat} {w : gH} {Q : Option Value → Nat → Nat → gH → Prop} {lt nb : Nat → Int32} {tl tt st en : Int32} {l : Nat} {tv : Nat → Nat}
theorem c_letterIn (ht : gtx lt tv l) {j : Nat} (hj : j < l) : gEv (gT X) 28 0 [.ref 8, .int (nI j)] [] n k (tW w lt nb (nI l) tt st en) Q ↔ Q (some (.int (nI (tv j)))) n k (tW w lt nb (nI l) tt st en) := by
  rw [c_letterAt ht (by have := ht.1; omega), if_pos hj]
theorem nI_sub {a b : Nat} (h : b ≤ a) : nI a - nI b = nI (a - b) := by
  rw [show a = a - b + b by omega, ← nI_add]
  simp
theorem c_isPlainNumber (ht : gtx lt tv l) {s e : Nat} (hs : s < l) (hse : s ≤ e) (he : e ≤ l) : gEv (gT X) 38 0 [.ref 8, .null] [] n k (tW w lt nb (nI l) tt (nI s) (nI e)) Q ↔ Q (some (.int (if s + 2 < e ∨ (tv s = 48 ∧ s + 1 < e) ∨ s = e then 0 else 1))) n k (tW w lt nb (nI l) tt (nI s) (nI e)) := by
  have hl := ht.1
  have h256 := (ht.2 s hs).2
  have c1 : (nI (e - s) = 1) ↔ e - s = 1 := nI_eq (b := 1) (by omega) (by omega)
  have c2 : (nI (e - s) = 2) ↔ e - s = 2 := nI_eq (b := 2) (by omega) (by omega)
  have c3 : (nI (tv s) = 48) ↔ tv s = 48 := nI_eq (b := 48) (by omega) (by omega)
  simp only [eX2_isPlainNumber_0, eX2_isPlainNumber_1, eX2_isPlainNumber_4, eX2_isPlainNumber_5, eX2_isPlainNumber_8, eX2_isPlainNumber_9, eX2_isPlainNumber_9b, eX2_isPlainNumber_9c, eX2_isPlainNumber_9d, eX2_isPlainNumber_10, eX2_isPlainNumber_11, eX2_isPlainNumber_12, eX2_isPlainNumber_15, eX2_isPlainNumber_16, eX2_isPlainNumber_17, eX2_isPlainNumber_20, eX2_isPlainNumber_21, eX2_isPlainNumber_22, eX2_isPlainNumber_25, eX2_isPlainNumber_28, eX2_isPlainNumber_30, eX2_isPlainNumber_33, eX2_isPlainNumber_34, eX2_isPlainNumber_37, eX2_isPlainNumber_38, Option.toList_some, Option.toList_none, List.cons_append, List.nil_append, gcat_nil, gcat_cons, cat_int, cat_ref, cat_null, cat_ret, cat_long, grc_ref, narZ0, narZ1, true_and, and_true, decide_true, Nat.reduceAdd, Nat.reduceLeDiff, if_true, if_false, eq_self, gfld_in, gobj_in, garr_in, garq_in, glen_in, gisO_in, ex_some, List.getElem?_cons_succ, List.getElem?_cons_zero, List.length_cons, List.length_nil, List.set_cons_succ, List.set_cons_zero, Nat.reduceLT, va_up_eq, va_up_nl, tW_8, nI_sub hse, c_letterIn ht hs, c1, c2, c3]
  by_cases q1 : e - s = 1
  · rw [if_pos q1, if_neg (by omega)]
  · rw [if_neg q1]
    by_cases q2 : e - s = 2
    · rw [if_neg (fun z => z q2)]
      by_cases q3 : tv s = 48
      · rw [if_pos q3, if_pos (by omega)]
      · rw [if_neg q3, if_neg (by omega)]
    · rw [if_pos q2, if_pos (by omega)]
theorem c_readToken (ht : gtx lt tv l) {p : Nat} (hp : p ≤ l) : gEv (gT X) 37 0 [.ref 8] [] n k (tW w lt nb (nI l) tt st (nI p)) Q ↔ Q none n k (tW w lt nb (nI l) (tCk tv l (tSk tv l p)) (nI (tSk tv l p)) (nI (tEn tv l (tSk tv l p)))) := by
  have hl := ht.1
  have skip : ∀ (D j : Nat), j + D = l → (gEv (gT X) 37 8 [.ref 8] [] n k (tW w lt nb (nI l) tt (nI j) (nI p)) Q ↔ gEv (gT X) 37 45 [.ref 8] [] n k (tW w lt nb (nI l) tt (nI (gfst (fun j => ¬ tv j = 32) j D)) (nI p)) Q) := by
    intro D
    induction D with
    | zero =>
      intro j hj
      have hc : nI l ≤ nI j := nI_le (by omega) (by omega)
      rw [eX2_readToken_8]
      simp only [eX2_readToken_9, eX2_readToken_12, eX2_readToken_13, eX2_readToken_16, Option.toList_some, Option.toList_none, List.cons_append, List.nil_append, gcat_nil, gcat_cons, cat_int, cat_ref, cat_null, cat_ret, cat_long, grc_ref, narZ0, narZ1, true_and, and_true, decide_true, Nat.reduceAdd, Nat.reduceLeDiff, if_true, if_false, eq_self, gfld_in, gobj_in, garr_in, garq_in, glen_in, gisO_in, ex_some, List.getElem?_cons_succ, List.getElem?_cons_zero, List.length_cons, List.length_nil, List.set_cons_succ, List.set_cons_zero, Nat.reduceLT, va_up_eq, va_up_nl, tW_8, hc]
      rfl
    | succ D ih =>
      intro j hj
      have hc : ¬ nI l ≤ nI j := nI_ge (by omega) (by omega)
      have h2 := (ht.2 j (by omega)).2
      have hi : (nI (tv j) = 32) ↔ tv j = 32 := nI_eq (b := 32) (by omega) (by omega)
      rw [eX2_readToken_8]
      simp only [eX2_readToken_9, eX2_readToken_12, eX2_readToken_13, eX2_readToken_16, eX2_readToken_19, eX2_readToken_20, eX2_readToken_21, eX2_readToken_24, eX2_readToken_27, eX2_readToken_29, Option.toList_some, Option.toList_none, List.cons_append, List.nil_append, gcat_nil, gcat_cons, cat_int, cat_ref, cat_null, cat_ret, cat_long, grc_ref, narZ0, narZ1, true_and, and_true, decide_true, Nat.reduceAdd, Nat.reduceLeDiff, if_true, if_false, eq_self, gfld_in, gobj_in, garr_in, garq_in, glen_in, gisO_in, ex_some, List.getElem?_cons_succ, List.getElem?_cons_zero, List.length_cons, List.length_nil, List.set_cons_succ, List.set_cons_zero, Nat.reduceLT, va_up_eq, va_up_nl, tW_8, hc, c_letterIn ht (show j < l by omega), hi]
      rw [gfst]
      by_cases q : tv j = 32
      · rw [if_neg (fun z => z q), if_neg (fun z => z q)]
        simp only [eX2_readToken_32, eX2_readToken_33, eX2_readToken_33b, eX2_readToken_34, eX2_readToken_37, eX2_readToken_38, eX2_readToken_39, eX2_readToken_42, Option.toList_some, Option.toList_none, List.cons_append, List.nil_append, gcat_nil, gcat_cons, cat_int, cat_ref, cat_null, cat_ret, cat_long, grc_ref, narZ0, narZ1, true_and, and_true, decide_true, Nat.reduceAdd, Nat.reduceLeDiff, if_true, if_false, eq_self, gfld_in, gobj_in, garr_in, garq_in, glen_in, gisO_in, ex_some, List.getElem?_cons_succ, List.getElem?_cons_zero, List.length_cons, List.length_nil, List.set_cons_succ, List.set_cons_zero, Nat.reduceLT, va_up_eq, va_up_nl, tW_8, tW_p8, nI_1]
        exact ih (j + 1) (by omega)
      · rw [if_pos q, if_pos q]
  have hs := tSk_le tv hp
  have e1 : gfst (fun j => ¬ tv j = 32) p (l - p) = tSk tv l p := rfl
  simp only [eX2_readToken_0, eX2_readToken_1, eX2_readToken_2, eX2_readToken_5, Option.toList_some, Option.toList_none, List.cons_append, List.nil_append, gcat_nil, gcat_cons, cat_int, cat_ref, cat_null, cat_ret, cat_long, grc_ref, narZ0, narZ1, true_and, and_true, decide_true, Nat.reduceAdd, Nat.reduceLeDiff, if_true, if_false, eq_self, gfld_in, gobj_in, garr_in, garq_in, glen_in, gisO_in, ex_some, List.getElem?_cons_succ, List.getElem?_cons_zero, List.length_cons, List.length_nil, List.set_cons_succ, List.set_cons_zero, Nat.reduceLT, va_up_eq, va_up_nl, tW_8, tW_p8]
  rw [skip (l - p) p (by omega), e1]
  generalize tSk tv l p = s at *
  have words : ∀ (D j : Nat), j + D = l → (gEv (gT X) 37 86 [.ref 8] [] n k (tW w lt nb (nI l) tt (nI s) (nI j)) Q ↔ gEv (gT X) 37 124 [.ref 8] [] n k (tW w lt nb (nI l) tt (nI s) (nI (gfst (fun j => ¬ tLet tv j) j D))) Q) := by
    intro D
    induction D with
    | zero =>
      intro j hj
      have hc : nI l ≤ nI j := nI_le (by omega) (by omega)
      rw [eX2_readToken_86]
      simp only [eX2_readToken_87, eX2_readToken_90, eX2_readToken_91, eX2_readToken_94, Option.toList_some, Option.toList_none, List.cons_append, List.nil_append, gcat_nil, gcat_cons, cat_int, cat_ref, cat_null, cat_ret, cat_long, grc_ref, narZ0, narZ1, true_and, and_true, decide_true, Nat.reduceAdd, Nat.reduceLeDiff, if_true, if_false, eq_self, gfld_in, gobj_in, garr_in, garq_in, glen_in, gisO_in, ex_some, List.getElem?_cons_succ, List.getElem?_cons_zero, List.length_cons, List.length_nil, List.set_cons_succ, List.set_cons_zero, Nat.reduceLT, va_up_eq, va_up_nl, tW_8, hc]
      rfl
    | succ D ih =>
      intro j hj
      have hc : ¬ nI l ≤ nI j := nI_ge (by omega) (by omega)
      have h2 := (ht.2 j (by omega)).2
      rw [eX2_readToken_86]
      simp only [eX2_readToken_87, eX2_readToken_90, eX2_readToken_91, eX2_readToken_94, eX2_readToken_97, eX2_readToken_98, eX2_readToken_99, eX2_readToken_102, eX2_readToken_105, eX2_readToken_108, Option.toList_some, Option.toList_none, List.cons_append, List.nil_append, gcat_nil, gcat_cons, cat_int, cat_ref, cat_null, cat_ret, cat_long, grc_ref, narZ0, narZ1, true_and, and_true, decide_true, Nat.reduceAdd, Nat.reduceLeDiff, if_true, if_false, eq_self, gfld_in, gobj_in, garr_in, garq_in, glen_in, gisO_in, ex_some, List.getElem?_cons_succ, List.getElem?_cons_zero, List.length_cons, List.length_nil, List.set_cons_succ, List.set_cons_zero, Nat.reduceLT, va_up_eq, va_up_nl, tW_8, hc, c_letterIn ht (show j < l by omega), c_isSmallLetter h2, gb_0]
      rw [gfst]
      by_cases q : tLet tv j
      · rw [if_neg (fun z => z q), if_neg (fun z => z q)]
        simp only [eX2_readToken_111, eX2_readToken_112, eX2_readToken_112b, eX2_readToken_113, eX2_readToken_116, eX2_readToken_117, eX2_readToken_118, eX2_readToken_121, Option.toList_some, Option.toList_none, List.cons_append, List.nil_append, gcat_nil, gcat_cons, cat_int, cat_ref, cat_null, cat_ret, cat_long, grc_ref, narZ0, narZ1, true_and, and_true, decide_true, Nat.reduceAdd, Nat.reduceLeDiff, if_true, if_false, eq_self, gfld_in, gobj_in, garr_in, garq_in, glen_in, gisO_in, ex_some, List.getElem?_cons_succ, List.getElem?_cons_zero, List.length_cons, List.length_nil, List.set_cons_succ, List.set_cons_zero, Nat.reduceLT, va_up_eq, va_up_nl, tW_8, tW_p8, nI_1]
        exact ih (j + 1) (by omega)
      · rw [if_pos q, if_pos q]
  have figs : ∀ (D j : Nat), j + D = l → (gEv (gT X) 37 146 [.ref 8] [] n k (tW w lt nb (nI l) tt (nI s) (nI j)) Q ↔ gEv (gT X) 37 184 [.ref 8] [] n k (tW w lt nb (nI l) tt (nI s) (nI (gfst (fun j => ¬ tFig tv j) j D))) Q) := by
    intro D
    induction D with
    | zero =>
      intro j hj
      have hc : nI l ≤ nI j := nI_le (by omega) (by omega)
      rw [eX2_readToken_146]
      simp only [eX2_readToken_147, eX2_readToken_150, eX2_readToken_151, eX2_readToken_154, Option.toList_some, Option.toList_none, List.cons_append, List.nil_append, gcat_nil, gcat_cons, cat_int, cat_ref, cat_null, cat_ret, cat_long, grc_ref, narZ0, narZ1, true_and, and_true, decide_true, Nat.reduceAdd, Nat.reduceLeDiff, if_true, if_false, eq_self, gfld_in, gobj_in, garr_in, garq_in, glen_in, gisO_in, ex_some, List.getElem?_cons_succ, List.getElem?_cons_zero, List.length_cons, List.length_nil, List.set_cons_succ, List.set_cons_zero, Nat.reduceLT, va_up_eq, va_up_nl, tW_8, hc]
      rfl
    | succ D ih =>
      intro j hj
      have hc : ¬ nI l ≤ nI j := nI_ge (by omega) (by omega)
      have h2 := (ht.2 j (by omega)).2
      rw [eX2_readToken_146]
      simp only [eX2_readToken_147, eX2_readToken_150, eX2_readToken_151, eX2_readToken_154, eX2_readToken_157, eX2_readToken_158, eX2_readToken_159, eX2_readToken_162, eX2_readToken_165, eX2_readToken_168, Option.toList_some, Option.toList_none, List.cons_append, List.nil_append, gcat_nil, gcat_cons, cat_int, cat_ref, cat_null, cat_ret, cat_long, grc_ref, narZ0, narZ1, true_and, and_true, decide_true, Nat.reduceAdd, Nat.reduceLeDiff, if_true, if_false, eq_self, gfld_in, gobj_in, garr_in, garq_in, glen_in, gisO_in, ex_some, List.getElem?_cons_succ, List.getElem?_cons_zero, List.length_cons, List.length_nil, List.set_cons_succ, List.set_cons_zero, Nat.reduceLT, va_up_eq, va_up_nl, tW_8, hc, c_letterIn ht (show j < l by omega), c_isFigure h2, gb_0]
      rw [gfst]
      by_cases q : tFig tv j
      · rw [if_neg (fun z => z q), if_neg (fun z => z q)]
        simp only [eX2_readToken_171, eX2_readToken_172, eX2_readToken_172b, eX2_readToken_173, eX2_readToken_176, eX2_readToken_177, eX2_readToken_178, eX2_readToken_181, Option.toList_some, Option.toList_none, List.cons_append, List.nil_append, gcat_nil, gcat_cons, cat_int, cat_ref, cat_null, cat_ret, cat_long, grc_ref, narZ0, narZ1, true_and, and_true, decide_true, Nat.reduceAdd, Nat.reduceLeDiff, if_true, if_false, eq_self, gfld_in, gobj_in, garr_in, garq_in, glen_in, gisO_in, ex_some, List.getElem?_cons_succ, List.getElem?_cons_zero, List.length_cons, List.length_nil, List.set_cons_succ, List.set_cons_zero, Nat.reduceLT, va_up_eq, va_up_nl, tW_8, tW_p8, nI_1]
        exact ih (j + 1) (by omega)
      · rw [if_pos q, if_pos q]
  simp only [eX2_readToken_45, eX2_readToken_46, eX2_readToken_47, eX2_readToken_50, eX2_readToken_53, eX2_readToken_54, eX2_readToken_57, eX2_readToken_58, eX2_readToken_61, Option.toList_some, Option.toList_none, List.cons_append, List.nil_append, gcat_nil, gcat_cons, cat_int, cat_ref, cat_null, cat_ret, cat_long, grc_ref, narZ0, narZ1, true_and, and_true, decide_true, Nat.reduceAdd, Nat.reduceLeDiff, if_true, if_false, eq_self, gfld_in, gobj_in, garr_in, garq_in, glen_in, gisO_in, ex_some, List.getElem?_cons_succ, List.getElem?_cons_zero, List.length_cons, List.length_nil, List.set_cons_succ, List.set_cons_zero, Nat.reduceLT, va_up_eq, va_up_nl, tW_8, tW_p8]
  by_cases q : l ≤ s
  · have hc : ¬ nI s < nI l := nI_nlt (by omega) (by omega)
    unfold tEn tCk
    rw [if_pos q, if_pos q, if_neg hc]
    simp only [eX2_readToken_64, eX2_readToken_65, eX2_readToken_66, eX2_readToken_69, eX2_readToken_235, Option.toList_some, Option.toList_none, List.cons_append, List.nil_append, gcat_nil, gcat_cons, cat_int, cat_ref, cat_null, cat_ret, cat_long, grc_ref, narZ0, narZ1, true_and, and_true, decide_true, Nat.reduceAdd, Nat.reduceLeDiff, if_true, if_false, eq_self, gfld_in, gobj_in, garr_in, garq_in, glen_in, gisO_in, ex_some, List.getElem?_cons_succ, List.getElem?_cons_zero, List.length_cons, List.length_nil, List.set_cons_succ, List.set_cons_zero, Nat.reduceLT, va_up_eq, va_up_nl, tW_8, tW_p8]
  · have hc : nI s < nI l := nI_lt (by omega) (by omega)
    have hsl : s < l := by omega
    have h2 := (ht.2 s hsl).2
    unfold tEn tCk
    rw [if_neg q, if_neg q, if_pos hc]
    simp only [eX2_readToken_72, eX2_readToken_73, eX2_readToken_74, eX2_readToken_77, eX2_readToken_80, eX2_readToken_83, Option.toList_some, Option.toList_none, List.cons_append, List.nil_append, gcat_nil, gcat_cons, cat_int, cat_ref, cat_null, cat_ret, cat_long, grc_ref, narZ0, narZ1, true_and, and_true, decide_true, Nat.reduceAdd, Nat.reduceLeDiff, if_true, if_false, eq_self, gfld_in, gobj_in, garr_in, garq_in, glen_in, gisO_in, ex_some, List.getElem?_cons_succ, List.getElem?_cons_zero, List.length_cons, List.length_nil, List.set_cons_succ, List.set_cons_zero, Nat.reduceLT, va_up_eq, va_up_nl, tW_8, c_letterIn ht hsl, c_isSmallLetter h2, gb_0]
    by_cases q1 : tLet tv s
    · rw [if_pos q1, if_pos q1, if_neg (fun z => z q1), words (l - s) s (by omega)]
      simp only [eX2_readToken_124, eX2_readToken_125, eX2_readToken_126, eX2_readToken_129, eX2_readToken_235, Option.toList_some, Option.toList_none, List.cons_append, List.nil_append, gcat_nil, gcat_cons, cat_int, cat_ref, cat_null, cat_ret, cat_long, grc_ref, narZ0, narZ1, true_and, and_true, decide_true, Nat.reduceAdd, Nat.reduceLeDiff, if_true, if_false, eq_self, gfld_in, gobj_in, garr_in, garq_in, glen_in, gisO_in, ex_some, List.getElem?_cons_succ, List.getElem?_cons_zero, List.length_cons, List.length_nil, List.set_cons_succ, List.set_cons_zero, Nat.reduceLT, va_up_eq, va_up_nl, tW_8, tW_p8]
      rfl
    · rw [if_neg q1, if_neg q1, if_pos q1]
      simp only [eX2_readToken_132, eX2_readToken_133, eX2_readToken_134, eX2_readToken_137, eX2_readToken_140, eX2_readToken_143, Option.toList_some, Option.toList_none, List.cons_append, List.nil_append, gcat_nil, gcat_cons, cat_int, cat_ref, cat_null, cat_ret, cat_long, grc_ref, narZ0, narZ1, true_and, and_true, decide_true, Nat.reduceAdd, Nat.reduceLeDiff, if_true, if_false, eq_self, gfld_in, gobj_in, garr_in, garq_in, glen_in, gisO_in, ex_some, List.getElem?_cons_succ, List.getElem?_cons_zero, List.length_cons, List.length_nil, List.set_cons_succ, List.set_cons_zero, Nat.reduceLT, va_up_eq, va_up_nl, tW_8, c_letterIn ht hsl, c_isFigure h2, gb_0]
      by_cases q2 : tFig tv s
      · rw [if_pos q2, if_pos q2, if_neg (fun z => z q2), figs (l - s) s (by omega)]
        have ew : gfst (fun j => ¬ tFig tv j) s (l - s) = tFe tv l s := rfl
        have hfe := gfst_le (fun j => ¬ tFig tv j) (l - s) s
        have hgt := gfst_gt (fun j => ¬ tFig tv j) (D := l - s) (j := s) (by omega) (fun z => z q2)
        rw [ew] at hfe hgt ⊢
        simp only [eX2_readToken_184, eX2_readToken_185, eX2_readToken_186, Option.toList_some, Option.toList_none, List.cons_append, List.nil_append, gcat_nil, gcat_cons, cat_int, cat_ref, cat_null, cat_ret, cat_long, grc_ref, narZ0, narZ1, true_and, and_true, decide_true, Nat.reduceAdd, Nat.reduceLeDiff, if_true, if_false, eq_self, gfld_in, gobj_in, garr_in, garq_in, glen_in, gisO_in, ex_some, List.getElem?_cons_succ, List.getElem?_cons_zero, List.length_cons, List.length_nil, List.set_cons_succ, List.set_cons_zero, Nat.reduceLT, va_up_eq, va_up_nl, tW_8, c_isPlainNumber ht hsl (show s ≤ tFe tv l s by omega) (show tFe tv l s ≤ l by omega)]
        by_cases q3 : s + 2 < tFe tv l s ∨ (tv s = 48 ∧ s + 1 < tFe tv l s)
        · rw [if_pos q3, if_pos (by omega)]
          simp only [eX2_readToken_189, eX2_readToken_196, eX2_readToken_197, eX2_readToken_200, eX2_readToken_235, Option.toList_some, Option.toList_none, List.cons_append, List.nil_append, gcat_nil, gcat_cons, cat_int, cat_ref, cat_null, cat_ret, cat_long, grc_ref, narZ0, narZ1, true_and, and_true, decide_true, Nat.reduceAdd, Nat.reduceLeDiff, if_true, if_false, eq_self, gfld_in, gobj_in, garr_in, garq_in, glen_in, gisO_in, ex_some, List.getElem?_cons_succ, List.getElem?_cons_zero, List.length_cons, List.length_nil, List.set_cons_succ, List.set_cons_zero, Nat.reduceLT, va_up_eq, va_up_nl, tW_8, tW_p8]
        · have h10 : ¬ (1 : Int32) = 0 := by decide
          rw [if_neg q3, if_neg (by omega)]
          simp only [eX2_readToken_189, eX2_readToken_192, eX2_readToken_193, eX2_readToken_197, eX2_readToken_200, eX2_readToken_235, Option.toList_some, Option.toList_none, List.cons_append, List.nil_append, gcat_nil, gcat_cons, cat_int, cat_ref, cat_null, cat_ret, cat_long, grc_ref, narZ0, narZ1, true_and, and_true, decide_true, Nat.reduceAdd, Nat.reduceLeDiff, if_true, if_false, eq_self, gfld_in, gobj_in, garr_in, garq_in, glen_in, gisO_in, ex_some, List.getElem?_cons_succ, List.getElem?_cons_zero, List.length_cons, List.length_nil, List.set_cons_succ, List.set_cons_zero, Nat.reduceLT, va_up_eq, va_up_nl, tW_8, tW_p8, h10]
      · rw [if_neg q2, if_neg q2, if_pos q2]
        have c3 : (nI (tv s) = 59) ↔ tv s = 59 := nI_eq (b := 59) (by omega) (by omega)
        simp only [eX2_readToken_203, eX2_readToken_204, eX2_readToken_204b, eX2_readToken_205, eX2_readToken_208, eX2_readToken_209, eX2_readToken_210, eX2_readToken_213, eX2_readToken_214, eX2_readToken_215, eX2_readToken_216, eX2_readToken_219, eX2_readToken_222, eX2_readToken_224, Option.toList_some, Option.toList_none, List.cons_append, List.nil_append, gcat_nil, gcat_cons, cat_int, cat_ref, cat_null, cat_ret, cat_long, grc_ref, narZ0, narZ1, true_and, and_true, decide_true, Nat.reduceAdd, Nat.reduceLeDiff, if_true, if_false, eq_self, gfld_in, gobj_in, garr_in, garq_in, glen_in, gisO_in, ex_some, List.getElem?_cons_succ, List.getElem?_cons_zero, List.length_cons, List.length_nil, List.set_cons_succ, List.set_cons_zero, Nat.reduceLT, va_up_eq, va_up_nl, tW_8, tW_p8, nI_1, c_letterIn ht hsl, c3]
        by_cases q3 : tv s = 59
        · rw [if_neg (fun z => z q3), if_pos q3]
          simp only [eX2_readToken_227, eX2_readToken_228, eX2_readToken_232, eX2_readToken_235, Option.toList_some, Option.toList_none, List.cons_append, List.nil_append, gcat_nil, gcat_cons, cat_int, cat_ref, cat_null, cat_ret, cat_long, grc_ref, narZ0, narZ1, true_and, and_true, decide_true, Nat.reduceAdd, Nat.reduceLeDiff, if_true, if_false, eq_self, gfld_in, gobj_in, garr_in, garq_in, glen_in, gisO_in, ex_some, List.getElem?_cons_succ, List.getElem?_cons_zero, List.length_cons, List.length_nil, List.set_cons_succ, List.set_cons_zero, Nat.reduceLT, va_up_eq, va_up_nl, tW_8, tW_p8]
        · rw [if_pos q3, if_neg q3]
          simp only [eX2_readToken_231, eX2_readToken_232, eX2_readToken_235, Option.toList_some, Option.toList_none, List.cons_append, List.nil_append, gcat_nil, gcat_cons, cat_int, cat_ref, cat_null, cat_ret, cat_long, grc_ref, narZ0, narZ1, true_and, and_true, decide_true, Nat.reduceAdd, Nat.reduceLeDiff, if_true, if_false, eq_self, gfld_in, gobj_in, garr_in, garq_in, glen_in, gisO_in, ex_some, List.getElem?_cons_succ, List.getElem?_cons_zero, List.length_cons, List.length_nil, List.set_cons_succ, List.set_cons_zero, Nat.reduceLT, va_up_eq, va_up_nl, tW_8, tW_p8]
/-- a number's figures: one or two -/
theorem tK2_fe {s : Nat} (h : tK tv l s = 2) : s < l ∧ tFig tv s ∧ tEn tv l s = tFe tv l s ∧ s < tFe tv l s ∧ tFe tv l s ≤ s + 2 ∧ tFe tv l s ≤ l := by
  unfold tK at h
  by_cases q : l ≤ s
  · rw [if_pos q] at h; omega
  · rw [if_neg q] at h
    by_cases q1 : tLet tv s
    · rw [if_pos q1] at h
      have := tWk_ge (tW9 tv s (tWe tv l s)); omega
    · rw [if_neg q1] at h
      by_cases q2 : tFig tv s
      · rw [if_pos q2] at h
        by_cases q3 : s + 2 < tFe tv l s ∨ (tv s = 48 ∧ s + 1 < tFe tv l s)
        · rw [if_pos q3] at h; omega
        · have hfe := gfst_le (fun j => ¬ tFig tv j) (l - s) s
          have hgt := gfst_gt (fun j => ¬ tFig tv j) (D := l - s) (j := s) (by omega) (fun z => z q2)
          have ew : gfst (fun j => ¬ tFig tv j) s (l - s) = tFe tv l s := rfl
          rw [ew] at hfe hgt
          refine ⟨by omega, q2, ?_, hgt, by omega, by omega⟩
          unfold tEn
          rw [if_neg q, if_neg q1, if_pos q2]
      · rw [if_neg q2] at h
        by_cases q3 : tv s = 59
        · rw [if_pos q3] at h; omega
        · rw [if_neg q3] at h; omega
theorem c_numberRead (ht : gtx lt tv l) {s : Nat} (h : tK tv l s = 2) : gEv (gT X) 39 0 [.ref 8, .null, .null] [] n k (tW w lt nb (nI l) tt (nI s) (nI (tEn tv l s))) Q ↔ Q (some (.int (nI (tN tv l s)))) n k (tW w lt nb (nI l) tt (nI s) (nI (tEn tv l s))) := by
  obtain ⟨h1, h2, h3, h4, h5, h6⟩ := tK2_fe h
  have hl := ht.1
  rw [h3]
  have hah : ∀ i, s ≤ i → i < tFe tv l s → tFig tv i := fun i h1 h2 => Decidable.not_not.mp (gfst_ah (fun j => ¬ tFig tv j) (l - s) s i h1 h2)
  have loop : ∀ (D j v : Nat), j + D = tFe tv l s → s ≤ j → (v < 10 ∧ D ≤ 1 ∨ v = 0 ∧ D ≤ 2 ∨ D = 0) → (gEv (gT X) 39 7 [.ref 8, .int (nI v), .int (nI j)] [] n k (tW w lt nb (nI l) tt (nI s) (nI (tFe tv l s))) Q ↔ Q (some (.int (nI (tVf tv j D v)))) n k (tW w lt nb (nI l) tt (nI s) (nI (tFe tv l s)))) := by
    intro D
    induction D with
    | zero =>
      intro j v hj hs hv
      have hc : nI (tFe tv l s) ≤ nI j := nI_le (by omega) (by omega)
      rw [eX2_numberRead_7]
      simp only [eX2_numberRead_8, eX2_numberRead_9, eX2_numberRead_12, eX2_numberRead_35, eX2_numberRead_36, Option.toList_some, Option.toList_none, List.cons_append, List.nil_append, gcat_nil, gcat_cons, cat_int, cat_ref, cat_null, cat_ret, cat_long, grc_ref, narZ0, narZ1, true_and, and_true, decide_true, Nat.reduceAdd, Nat.reduceLeDiff, if_true, if_false, eq_self, gfld_in, gobj_in, garr_in, garq_in, glen_in, gisO_in, ex_some, List.getElem?_cons_succ, List.getElem?_cons_zero, List.length_cons, List.length_nil, List.set_cons_succ, List.set_cons_zero, Nat.reduceLT, va_up_eq, va_up_nl, tW_8, hc]
      rfl
    | succ D ih =>
      intro j v hj hs hv
      have hc : ¬ nI (tFe tv l s) ≤ nI j := nI_ge (by omega) (by omega)
      have hf := hah j hs (by omega)
      have hv9 : v ≤ 99 := by omega
      have e1 : nI v * 10 + nI (tv j) - 48 = nI (10 * v + tv j - 48) := by
        rw [show (10 : Int32) = nI 10 from rfl, pk_mul, nI_add, show v * 10 + tv j = 10 * v + tv j - 48 + 48 by omega, ← nI_add, show (48 : Int32) = nI 48 from rfl]
        simp
      have e2 : tVf tv j (D + 1) v = tVf tv (j + 1) D (10 * v + tv j - 48) := by
        unfold tVf
        rw [gfor, if_pos hv9]
      rw [eX2_numberRead_7]
      simp only [eX2_numberRead_8, eX2_numberRead_9, eX2_numberRead_12, eX2_numberRead_15, eX2_numberRead_16, eX2_numberRead_18, eX2_numberRead_19, eX2_numberRead_20, eX2_numberRead_21, eX2_numberRead_24, eX2_numberRead_25, eX2_numberRead_27, eX2_numberRead_28, eX2_numberRead_28b, eX2_numberRead_28c, eX2_numberRead_28d, eX2_numberRead_29, eX2_numberRead_29b, eX2_numberRead_29c, eX2_numberRead_29d, eX2_numberRead_32, Option.toList_some, Option.toList_none, List.cons_append, List.nil_append, gcat_nil, gcat_cons, cat_int, cat_ref, cat_null, cat_ret, cat_long, grc_ref, narZ0, narZ1, true_and, and_true, decide_true, Nat.reduceAdd, Nat.reduceLeDiff, if_true, if_false, eq_self, gfld_in, gobj_in, garr_in, garq_in, glen_in, gisO_in, ex_some, List.getElem?_cons_succ, List.getElem?_cons_zero, List.length_cons, List.length_nil, List.set_cons_succ, List.set_cons_zero, Nat.reduceLT, va_up_eq, va_up_nl, tW_8, hc, c_letterIn ht (show j < l by omega), e1, nI_1]
      rw [e2]
      exact ih (j + 1) _ (by omega) (by omega) (by omega)
  have := loop (tFe tv l s - s) s 0 (by omega) (Nat.le_refl _) (by omega)
  rw [show (nI 0 : Int32) = 0 from rfl] at this
  simp only [eX2_numberRead_0, eX2_numberRead_1, eX2_numberRead_1b, eX2_numberRead_1c, eX2_numberRead_1d, eX2_numberRead_2, eX2_numberRead_3, eX2_numberRead_6, eX2_numberRead_6b, eX2_numberRead_6c, eX2_numberRead_6d, Option.toList_some, Option.toList_none, List.cons_append, List.nil_append, gcat_nil, gcat_cons, cat_int, cat_ref, cat_null, cat_ret, cat_long, grc_ref, narZ0, narZ1, true_and, and_true, decide_true, Nat.reduceAdd, Nat.reduceLeDiff, if_true, if_false, eq_self, gfld_in, gobj_in, garr_in, garq_in, glen_in, gisO_in, ex_some, List.getElem?_cons_succ, List.getElem?_cons_zero, List.length_cons, List.length_nil, List.set_cons_succ, List.set_cons_zero, Nat.reduceLT, va_up_eq, va_up_nl, tW_8]
  exact this
/-- the word spells the text j -/
abbrev tSp (tv : Nat → Nat) (s e j : Nat) : Prop := e - s = glens.getD j 0 ∧ ∀ i, i < glens.getD j 0 → nI (tv (s + i)) = gch j i
theorem c_spells (ht : gtx lt tv l) {s e j : Nat} (hj : j < 5) (hse : s ≤ e) (he : e ≤ l) : gEv (gT X) 32 0 [.ref 8, .retAddr (j + 1), .null] [] n k (tW w lt nb (nI l) tt (nI s) (nI e)) Q ↔ Q (some (.int (gb (tSp tv s e j)))) n k (tW w lt nb (nI l) tt (nI s) (nI e)) := by
  have hl := ht.1
  have h20 : j + 1 ≤ 20 := by omega
  have hg := glens_le j hj
  have c1 : (nI (glens.getD j 0) = nI (e - s)) ↔ e - s = glens.getD j 0 := by
    rw [nI_eq (by omega) (by omega)]
    exact ⟨Eq.symm, Eq.symm⟩
  simp only [eX2_spells_0 h20, eX2_spells_1, eX2_spells_4, eX2_spells_5, eX2_spells_8, eX2_spells_9, eX2_spells_12, eX2_spells_13, Option.toList_some, Option.toList_none, List.cons_append, List.nil_append, gcat_nil, gcat_cons, cat_int, cat_ref, cat_null, cat_ret, cat_long, grc_ref, narZ0, narZ1, true_and, and_true, decide_true, Nat.reduceAdd, Nat.reduceLeDiff, if_true, if_false, eq_self, gfld_in, gobj_in, garr_in, garq_in, glen_in, gisO_in, ex_some, List.getElem?_cons_succ, List.getElem?_cons_zero, List.length_cons, List.length_nil, List.set_cons_succ, List.set_cons_zero, Nat.reduceLT, va_up_eq, va_up_nl, grc_txt hj, cJ_length hj, tW_8, nI_sub hse, c1]
  by_cases q : e - s = glens.getD j 0
  · rw [if_pos q]
    have loop : ∀ (D i : Nat), i + D = glens.getD j 0 → (∀ z, z < i → nI (tv (s + z)) = gch j z) → (gEv (gT X) 32 20 [.ref 8, .retAddr (j + 1), .int (nI i)] [] n k (tW w lt nb (nI l) tt (nI s) (nI e)) Q ↔ Q (some (.int (gb (tSp tv s e j)))) n k (tW w lt nb (nI l) tt (nI s) (nI e))) := by
      intro D
      induction D with
      | zero =>
        intro i hi hz
        have hc : nI (glens.getD j 0) ≤ nI i := nI_le (by omega) (by omega)
        rw [eX2_spells_20]
        simp only [eX2_spells_21 h20, eX2_spells_22, eX2_spells_25, eX2_spells_54, eX2_spells_55, Option.toList_some, Option.toList_none, List.cons_append, List.nil_append, gcat_nil, gcat_cons, cat_int, cat_ref, cat_null, cat_ret, cat_long, grc_ref, narZ0, narZ1, true_and, and_true, decide_true, Nat.reduceAdd, Nat.reduceLeDiff, if_true, if_false, eq_self, gfld_in, gobj_in, garr_in, garq_in, glen_in, gisO_in, ex_some, List.getElem?_cons_succ, List.getElem?_cons_zero, List.length_cons, List.length_nil, List.set_cons_succ, List.set_cons_zero, Nat.reduceLT, va_up_eq, va_up_nl, grc_txt hj, cJ_length hj, hc]
        rw [gb_t ⟨q, fun z h => hz z (by omega)⟩]
      | succ D ih =>
        intro i hi hz
        have hc : ¬ nI (glens.getD j 0) ≤ nI i := nI_ge (by omega) (by omega)
        rw [eX2_spells_20]
        simp only [eX2_spells_21 h20, eX2_spells_22, eX2_spells_25, eX2_spells_28, eX2_spells_29, eX2_spells_30, eX2_spells_33, eX2_spells_34, eX2_spells_35, Option.toList_some, Option.toList_none, List.cons_append, List.nil_append, gcat_nil, gcat_cons, cat_int, cat_ref, cat_null, cat_ret, cat_long, grc_ref, narZ0, narZ1, true_and, and_true, decide_true, Nat.reduceAdd, Nat.reduceLeDiff, if_true, if_false, eq_self, gfld_in, gobj_in, garr_in, garq_in, glen_in, gisO_in, ex_some, List.getElem?_cons_succ, List.getElem?_cons_zero, List.length_cons, List.length_nil, List.set_cons_succ, List.set_cons_zero, Nat.reduceLT, va_up_eq, va_up_nl, grc_txt hj, cJ_length hj, hc, tW_8, nI_add, c_letterIn ht (show s + i < l by omega)]
        simp only [eX2_spells_38 h20, eX2_spells_39, eX2_spells_40, eX2_spells_43, Option.toList_some, Option.toList_none, List.cons_append, List.nil_append, gcat_nil, gcat_cons, cat_int, cat_ref, cat_null, cat_ret, cat_long, grc_ref, narZ0, narZ1, true_and, and_true, decide_true, Nat.reduceAdd, Nat.reduceLeDiff, if_true, if_false, eq_self, gfld_in, gobj_in, garr_in, garq_in, glen_in, gisO_in, ex_some, List.getElem?_cons_succ, List.getElem?_cons_zero, List.length_cons, List.length_nil, List.set_cons_succ, List.set_cons_zero, Nat.reduceLT, va_up_eq, va_up_nl, grc_txt hj, cJ_charAt hj (show i < glens.getD j 0 by omega)]
        by_cases q2 : nI (tv (s + i)) = gch j i
        · rw [if_pos q2]
          simp only [eX2_spells_48, eX2_spells_48b, eX2_spells_48c, eX2_spells_48d, eX2_spells_51, Option.toList_some, Option.toList_none, List.cons_append, List.nil_append, gcat_nil, gcat_cons, cat_int, cat_ref, cat_null, cat_ret, cat_long, grc_ref, narZ0, narZ1, true_and, and_true, decide_true, Nat.reduceAdd, Nat.reduceLeDiff, if_true, if_false, eq_self, gfld_in, gobj_in, garr_in, garq_in, glen_in, gisO_in, ex_some, List.getElem?_cons_succ, List.getElem?_cons_zero, List.length_cons, List.length_nil, List.set_cons_succ, List.set_cons_zero, Nat.reduceLT, va_up_eq, va_up_nl, nI_1]
          refine ih (i + 1) (by omega) (fun z h => ?_)
          by_cases q3 : z = i
          · rw [q3]; exact q2
          · exact hz z (by omega)
        · rw [if_neg q2]
          simp only [eX2_spells_46, eX2_spells_47, Option.toList_some, Option.toList_none, List.cons_append, List.nil_append, gcat_nil, gcat_cons, cat_int, cat_ref, cat_null, cat_ret, cat_long, grc_ref, narZ0, narZ1, true_and, and_true, decide_true, Nat.reduceAdd, Nat.reduceLeDiff, if_true, if_false, eq_self, gfld_in, gobj_in, garr_in, garq_in, glen_in, gisO_in, ex_some, List.getElem?_cons_succ, List.getElem?_cons_zero, List.length_cons, List.length_nil, List.set_cons_succ, List.set_cons_zero, Nat.reduceLT, va_up_eq, va_up_nl]
          rw [gb_f (fun z => q2 (z.2 i (by omega)))]
    simp only [eX2_spells_18, eX2_spells_19, eX2_spells_19b, eX2_spells_19c, eX2_spells_19d, Option.toList_some, Option.toList_none, List.cons_append, List.nil_append, gcat_nil, gcat_cons, cat_int, cat_ref, cat_null, cat_ret, cat_long, grc_ref, narZ0, narZ1, true_and, and_true, decide_true, Nat.reduceAdd, Nat.reduceLeDiff, if_true, if_false, eq_self, gfld_in, gobj_in, garr_in, garq_in, glen_in, gisO_in, ex_some, List.getElem?_cons_succ, List.getElem?_cons_zero, List.length_cons, List.length_nil, List.set_cons_succ, List.set_cons_zero, Nat.reduceLT, va_up_eq, va_up_nl]
    exact loop (glens.getD j 0) 0 (by omega) (fun z h => absurd h (by omega))
  · rw [if_neg q]
    simp only [eX2_spells_16, eX2_spells_17, Option.toList_some, Option.toList_none, List.cons_append, List.nil_append, gcat_nil, gcat_cons, cat_int, cat_ref, cat_null, cat_ret, cat_long, grc_ref, narZ0, narZ1, true_and, and_true, decide_true, Nat.reduceAdd, Nat.reduceLeDiff, if_true, if_false, eq_self, gfld_in, gobj_in, garr_in, garq_in, glen_in, gisO_in, ex_some, List.getElem?_cons_succ, List.getElem?_cons_zero, List.length_cons, List.length_nil, List.set_cons_succ, List.set_cons_zero, Nat.reduceLT, va_up_eq, va_up_nl]
    rw [gb_f (fun z => q z.1)]
end TD
