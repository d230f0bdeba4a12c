/-! THE MODEL: tokens, numbers -/
def tN (tv : Nat → Nat) (l s : Nat) : Nat := tVf tv s (tFe tv l s - s) 0
/-- a number that may be told stands there -/
abbrev tOk (tv : Nat → Nat) (l s lo hi : Nat) : Prop := tK tv l s = 2 ∧ lo ≤ tN tv l s ∧ tN tv l s ≤ hi
theorem tVf_lt (tv : Nat → Nat) : ∀ (D j v : Nat), v < 1000 → (∀ i, j ≤ i → i < j + D → tv i ≤ 57) → tVf tv j D v < 1000 := by
  intro D
  induction D with
  | zero => intro j v h _; exact h
  | succ D ih =>
    intro j v h ht
    unfold tVf
    rw [gfor]
    refine ih (j + 1) _ ?_ (fun i h1 h2 => ht i (by omega) (by omega))
    have := ht j (by omega) (by omega)
    by_cases q : v ≤ 99
    · rw [if_pos q]; omega
    · rw [if_neg q]; exact h
theorem tN_lt (tv : Nat → Nat) (l s : Nat) : tN tv l s < 1000 := by
  unfold tN
  refine tVf_lt tv _ _ _ (by omega) (fun i h1 h2 => ?_)
  have h3 := gfst_le (fun j => ¬ tFig tv j) (l - s) s
  have := gfst_ah (fun j => ¬ tFig tv j) (l - s) s i h1 (by unfold tFe at h2; omega)
  exact (Decidable.not_not.mp this).2
theorem tSk_le (tv : Nat → Nat) {l p : Nat} (hp : p ≤ l) : p ≤ tSk tv l p ∧ tSk tv l p ≤ l := by
  have := gfst_le (fun j => ¬ tv j = 32) (l - p) p
  unfold tSk
  omega
theorem tEn_le (tv : Nat → Nat) {l s : Nat} (hs : s ≤ l) : s ≤ tEn tv l s ∧ tEn tv l s ≤ l := by
  unfold tEn tWe tFe
  have h1 := gfst_le (fun j => ¬ tLet tv j) (l - s) s
  have h2 := gfst_le (fun j => ¬ tFig tv j) (l - s) s
  by_cases q : l ≤ s
  · rw [if_pos q]; omega
  · rw [if_neg q]
    by_cases q1 : tLet tv s
    · rw [if_pos q1]; omega
    · rw [if_neg q1]
      by_cases q2 : tFig tv s
      · rw [if_pos q2]; omega
      · rw [if_neg q2]; omega
theorem gfst_gt (p : Nat → Prop) [DecidablePred p] {D j : Nat} (hD : 0 < D) (h : ¬ p j) : j < gfst p j D := by
  cases D with
  | zero => omega
  | succ D =>
    rw [gfst, if_neg h]
    have := gfst_le p D (j + 1)
    omega
theorem tEn_lt (tv : Nat → Nat) {l s : Nat} (hs : s < l) : s < tEn tv l s := by
  unfold tEn tWe tFe
  rw [if_neg (by omega)]
  by_cases q1 : tLet tv s
  · rw [if_pos q1]; exact gfst_gt (fun j => ¬ tLet tv j) (by omega) (fun z => z q1)
  · rw [if_neg q1]
    by_cases q2 : tFig tv s
    · rw [if_pos q2]; exact gfst_gt (fun j => ¬ tFig tv j) (by omega) (fun z => z q2)
    · rw [if_neg q2]; omega
theorem tWk_ge (W : Nat) : 3 ≤ tWk W ∧ tWk W ≤ 8 := by
  unfold tWk
  repeat' split
  all_goals omega
theorem tK_le (tv : Nat → Nat) (l s : Nat) : tK tv l s ≤ 8 := by
  unfold tK
  have := tWk_ge (tW9 tv s (tWe tv l s))
  repeat' split
  all_goals omega
theorem tK_0 (tv : Nat → Nat) {l s : Nat} : tK tv l s = 0 ↔ l ≤ s := by
  unfold tK
  have := tWk_ge (tW9 tv s (tWe tv l s))
  by_cases q : l ≤ s
  · rw [if_pos q]; simp [q]
  · rw [if_neg q]
    constructor
    · intro h
      exfalso
      revert h
      repeat' split
      all_goals omega
    · intro h; exact absurd h q
theorem tTok_inj : ∀ a, a < 9 → ∀ b, b < 9 → (tTok a = tTok b ↔ a = b) := by decide +kernel
section MU
variable {X : gX} {n k : Nat} {w : gH} {Q : Option Value → Nat → Nat → gH → Prop} {o : Nat} {nw rd ps im ik tx fa al be fo io : Nat → Int32} {de le pz tk ta va se it ln fz fb fm : Int32} {l p : Nat} {tv : Nat → Nat}
theorem c6_next (ht : gtx tx tv l) (hp : p ≤ l) : gEv (gT X) 125 0 [.ref o] [] n k (mW w o nw rd ps de im ik tx (nI l) (nI p) tk ta va fa se it al ln fz fb be fo fm io) Q ↔ Q none n k (mW w o nw rd ps de im ik tx (nI l) (nI (tEn tv l (tSk tv l p))) (tTok (tK tv l (tSk tv l p))) (nI (tSk tv l p)) (tVa va tv l (tSk tv l p)) fa se it al ln fz fb be fo fm io) := by
  have hl := ht.1
  have skip : ∀ (D j : Nat), j + D = l → (gEv (gT X) 125 0 [.ref o] [] n k (mW w o nw rd ps de im ik tx (nI l) (nI j) tk ta va fa se it al ln fz fb be fo fm io) Q ↔ gEv (gT X) 125 38 [.ref o] [] n k (mW w o nw rd ps de im ik tx (nI l) (nI (gfst (fun j => ¬ tv j = 32) j D)) tk ta va fa se it al ln fz fb be fo fm io) Q) := by
    intro D
    induction D with
    | zero =>
      intro j hj
      have hc : nI l ≤ nI j := nI_le (by omega) (by omega)
      rw [eX6_next_0]
      simp only [eX6_next_1, eX6_next_4, eX6_next_5, eX6_next_8, Option.toList_some, Option.toList_none, List.cons_append, List.nil_append, gcat_nil, gcat_cons, cat_int, cat_ref, cat_null, cat_ret, cat_long, grc_ref, narZ0, narZ1, true_and, and_true, decide_true, Nat.reduceAdd, Nat.reduceLeDiff, if_true, if_false, eq_self, gfld_in, gobj_in, garr_in, garq_in, glen_in, gisO_in, ex_some, List.getElem?_cons_succ, List.getElem?_cons_zero, List.length_cons, List.length_nil, List.set_cons_succ, List.set_cons_zero, Nat.reduceLT, va_up_eq, va_up_nl, mW_0, hc]
      rfl
    | succ D ih =>
      intro j hj
      have hc : ¬ nI l ≤ nI j := nI_ge (by omega) (by omega)
      obtain ⟨h1, h2⟩ := ht.2 j (by omega)
      have v : vp_in (nI j) 150 := vp_in_nI (by omega) (by omega)
      have hi : (nI (tv j) = 32) ↔ tv j = 32 := nI_eq (b := 32) (by omega) (by omega)
      rw [eX6_next_0]
      simp only [eX6_next_1, eX6_next_4, eX6_next_5, eX6_next_8, eX6_next_11, eX6_next_12, eX6_next_15, eX6_next_16, eX6_next_19, eX6_next_20, eX6_next_22, Option.toList_some, Option.toList_none, List.cons_append, List.nil_append, gcat_nil, gcat_cons, cat_int, cat_ref, cat_null, cat_ret, cat_long, grc_ref, narZ0, narZ1, true_and, and_true, decide_true, Nat.reduceAdd, Nat.reduceLeDiff, if_true, if_false, eq_self, gfld_in, gobj_in, garr_in, garq_in, glen_in, gisO_in, ex_some, List.getElem?_cons_succ, List.getElem?_cons_zero, List.length_cons, List.length_nil, List.set_cons_succ, List.set_cons_zero, Nat.reduceLT, va_up_eq, va_up_nl, mW_0, mW_6, hc, v, nI_clamp (show j < 2 ^ 31 by omega), h1, hi]
      rw [gfst]
      by_cases q : tv j = 32
      · rw [if_neg (fun z => z q), if_neg (fun z => z q)]
        simp only [eX6_next_25, eX6_next_26, eX6_next_26b, eX6_next_27, eX6_next_30, eX6_next_31, eX6_next_32, eX6_next_35, Option.toList_some, Option.toList_none, List.cons_append, List.nil_append, gcat_nil, gcat_cons, cat_int, cat_ref, cat_null, cat_ret, cat_long, grc_ref, narZ0, narZ1, true_and, and_true, decide_true, Nat.reduceAdd, Nat.reduceLeDiff, if_true, if_false, eq_self, gfld_in, gobj_in, garr_in, garq_in, glen_in, gisO_in, ex_some, List.getElem?_cons_succ, List.getElem?_cons_zero, List.length_cons, List.length_nil, List.set_cons_succ, List.set_cons_zero, Nat.reduceLT, va_up_eq, va_up_nl, mW_0, mW_p0, nI_1]
        exact ih (j + 1) (by omega)
      · rw [if_pos q, if_pos q]
  have hs := tSk_le tv hp
  have e1 : gfst (fun j => ¬ tv j = 32) p (l - p) = tSk tv l p := rfl
  rw [skip (l - p) p (by omega), e1]
  generalize tSk tv l p = s at *
  have words : ∀ (D j : Nat), j + D = l → ∀ ta, (gEv (gT X) 125 74 [.ref o] [] n k (mW w o nw rd ps de im ik tx (nI l) (nI j) tk ta va fa se it al ln fz fb be fo fm io) Q ↔ gEv (gT X) 125 94 [.ref o] [] n k (mW w o nw rd ps de im ik tx (nI l) (nI (gfst (fun j => ¬ tLet tv j) j D)) tk ta va fa se it al ln fz fb be fo fm io) Q) := by
    intro D
    induction D with
    | zero =>
      intro j hj ta
      rw [eX6_next_74]
      simp only [eX6_next_75, eX6_next_78, Option.toList_some, Option.toList_none, List.cons_append, List.nil_append, gcat_nil, gcat_cons, cat_int, cat_ref, cat_null, cat_ret, cat_long, grc_ref, narZ0, narZ1, true_and, and_true, decide_true, Nat.reduceAdd, Nat.reduceLeDiff, if_true, if_false, eq_self, gfld_in, gobj_in, garr_in, garq_in, glen_in, gisO_in, ex_some, List.getElem?_cons_succ, List.getElem?_cons_zero, List.length_cons, List.length_nil, List.set_cons_succ, List.set_cons_zero, Nat.reduceLT, va_up_eq, va_up_nl, mW_0, c6_isLetter ht (show j ≤ l by omega), gb_0]
      rw [if_pos (fun z => absurd z.1 (by omega))]
      rfl
    | succ D ih =>
      intro j hj ta
      rw [eX6_next_74]
      simp only [eX6_next_75, eX6_next_78, Option.toList_some, Option.toList_none, List.cons_append, List.nil_append, gcat_nil, gcat_cons, cat_int, cat_ref, cat_null, cat_ret, cat_long, grc_ref, narZ0, narZ1, true_and, and_true, decide_true, Nat.reduceAdd, Nat.reduceLeDiff, if_true, if_false, eq_self, gfld_in, gobj_in, garr_in, garq_in, glen_in, gisO_in, ex_some, List.getElem?_cons_succ, List.getElem?_cons_zero, List.length_cons, List.length_nil, List.set_cons_succ, List.set_cons_zero, Nat.reduceLT, va_up_eq, va_up_nl, mW_0, c6_isLetter ht (show j ≤ l by omega), gb_0]
      rw [gfst]
      by_cases q : tLet tv j
      · rw [if_neg (fun z => z ⟨by omega, q⟩), if_neg (fun z => z q)]
        simp only [eX6_next_81, eX6_next_82, eX6_next_82b, eX6_next_83, eX6_next_86, eX6_next_87, eX6_next_88, eX6_next_91, Option.toList_some, Option.toList_none, List.cons_append, List.nil_append, gcat_nil, gcat_cons, cat_int, cat_ref, cat_null, cat_ret, cat_long, grc_ref, narZ0, narZ1, true_and, and_true, decide_true, Nat.reduceAdd, Nat.reduceLeDiff, if_true, if_false, eq_self, gfld_in, gobj_in, garr_in, garq_in, glen_in, gisO_in, ex_some, List.getElem?_cons_succ, List.getElem?_cons_zero, List.length_cons, List.length_nil, List.set_cons_succ, List.set_cons_zero, Nat.reduceLT, va_up_eq, va_up_nl, mW_0, mW_p0, nI_1]
        exact ih (j + 1) (by omega) ta
      · rw [if_pos (fun z => q z.2), if_pos q]
  have figs : ∀ (D j v : Nat), j + D = l → v < 1000 → ∀ ta, (gEv (gT X) 125 117 [.ref o] [] n k (mW w o nw rd ps de im ik tx (nI l) (nI j) tk ta (nI v) fa se it al ln fz fb be fo fm io) Q ↔ gEv (gT X) 125 177 [.ref o] [] n k (mW w o nw rd ps de im ik tx (nI l) (nI (gfst (fun j => ¬ tFig tv j) j D)) tk ta (nI (tVf tv j (gfst (fun j => ¬ tFig tv j) j D - j) v)) fa se it al ln fz fb be fo fm io) Q) := by
    intro D
    induction D with
    | zero =>
      intro j v hj hv ta
      rw [eX6_next_117]
      simp only [eX6_next_118, eX6_next_121, Option.toList_some, Option.toList_none, List.cons_append, List.nil_append, gcat_nil, gcat_cons, cat_int, cat_ref, cat_null, cat_ret, cat_long, grc_ref, narZ0, narZ1, true_and, and_true, decide_true, Nat.reduceAdd, Nat.reduceLeDiff, if_true, if_false, eq_self, gfld_in, gobj_in, garr_in, garq_in, glen_in, gisO_in, ex_some, List.getElem?_cons_succ, List.getElem?_cons_zero, List.length_cons, List.length_nil, List.set_cons_succ, List.set_cons_zero, Nat.reduceLT, va_up_eq, va_up_nl, mW_0, c6_isFigure ht (show j ≤ l by omega), gb_0]
      rw [if_pos (fun z => absurd z.1 (by omega)), gfst, Nat.sub_self]
      rfl
    | succ D ih =>
      intro j v hj hv ta
      obtain ⟨h1, h2⟩ := ht.2 j (by omega)
      have vj : vp_in (nI j) 150 := vp_in_nI (by omega) (by omega)
      rw [eX6_next_117]
      simp only [eX6_next_118, eX6_next_121, Option.toList_some, Option.toList_none, List.cons_append, List.nil_append, gcat_nil, gcat_cons, cat_int, cat_ref, cat_null, cat_ret, cat_long, grc_ref, narZ0, narZ1, true_and, and_true, decide_true, Nat.reduceAdd, Nat.reduceLeDiff, if_true, if_false, eq_self, gfld_in, gobj_in, garr_in, garq_in, glen_in, gisO_in, ex_some, List.getElem?_cons_succ, List.getElem?_cons_zero, List.length_cons, List.length_nil, List.set_cons_succ, List.set_cons_zero, Nat.reduceLT, va_up_eq, va_up_nl, mW_0, c6_isFigure ht (show j ≤ l by omega), gb_0]
      by_cases q : tFig tv j
      · rw [if_neg (fun z => z ⟨by omega, q⟩)]
        have eg : gfst (fun j => ¬ tFig tv j) j (D + 1) = gfst (fun j => ¬ tFig tv j) (j + 1) D := by rw [gfst, if_neg (fun z => z q)]
        have hge := gfst_le (fun j => ¬ tFig tv j) D (j + 1)
        have ev : tVf tv j (gfst (fun j => ¬ tFig tv j) j (D + 1) - j) v = tVf tv (j + 1) (gfst (fun j => ¬ tFig tv j) (j + 1) D - (j + 1)) (if v ≤ 99 then 10 * v + tv j - 48 else v) := by
          rw [eg, show gfst (fun j => ¬ tFig tv j) (j + 1) D - j = gfst (fun j => ¬ tFig tv j) (j + 1) D - (j + 1) + 1 by omega]
          rfl
        rw [ev, eg]
        simp only [eX6_next_124, eX6_next_125, eX6_next_126, eX6_next_129, eX6_next_131, Option.toList_some, Option.toList_none, List.cons_append, List.nil_append, gcat_nil, gcat_cons, cat_int, cat_ref, cat_null, cat_ret, cat_long, grc_ref, narZ0, narZ1, true_and, and_true, decide_true, Nat.reduceAdd, Nat.reduceLeDiff, if_true, if_false, eq_self, gfld_in, gobj_in, garr_in, garq_in, glen_in, gisO_in, ex_some, List.getElem?_cons_succ, List.getElem?_cons_zero, List.length_cons, List.length_nil, List.set_cons_succ, List.set_cons_zero, Nat.reduceLT, va_up_eq, va_up_nl, mW_0]
        by_cases q2 : v ≤ 99
        · have hc : nI v ≤ 99 := nI_le (b := 99) q2 (by omega)
          have e3 : 10 * nI v + nI (tv j) - 48 = nI (10 * v + tv j - 48) := by
            rw [show (10 : Int32) = nI 10 from rfl, pk_mul, nI_add, show 10 * v + tv j = 10 * v + tv j - 48 + 48 by omega, ← nI_add, show (48 : Int32) = nI 48 from rfl]
            simp
          rw [if_pos hc, if_pos q2]
          simp only [eX6_next_141, eX6_next_143, eX6_next_144, eX6_next_147, eX6_next_148, eX6_next_149, eX6_next_152, eX6_next_153, eX6_next_156, eX6_next_157, eX6_next_158, eX6_next_160, eX6_next_161, eX6_next_164, eX6_next_165, eX6_next_165b, eX6_next_166, eX6_next_169, eX6_next_170, eX6_next_171, eX6_next_174, Option.toList_some, Option.toList_none, List.cons_append, List.nil_append, gcat_nil, gcat_cons, cat_int, cat_ref, cat_null, cat_ret, cat_long, grc_ref, narZ0, narZ1, true_and, and_true, decide_true, Nat.reduceAdd, Nat.reduceLeDiff, if_true, if_false, eq_self, gfld_in, gobj_in, garr_in, garq_in, glen_in, gisO_in, ex_some, List.getElem?_cons_succ, List.getElem?_cons_zero, List.length_cons, List.length_nil, List.set_cons_succ, List.set_cons_zero, Nat.reduceLT, va_up_eq, va_up_nl, mW_0, mW_6, vj, nI_clamp (show j < 2 ^ 31 by omega), h1, e3, mW_p0, nI_1]
          exact ih (j + 1) _ (by omega) (by omega) ta
        · have hc : ¬ nI v ≤ 99 := nI_ge (a := 99) (by omega) (by omega)
          rw [if_neg hc, if_neg q2]
          simp only [eX6_next_134, eX6_next_135, eX6_next_138, eX6_next_161, eX6_next_164, eX6_next_165, eX6_next_165b, eX6_next_166, eX6_next_169, eX6_next_170, eX6_next_171, eX6_next_174, Option.toList_some, Option.toList_none, List.cons_append, List.nil_append, gcat_nil, gcat_cons, cat_int, cat_ref, cat_null, cat_ret, cat_long, grc_ref, narZ0, narZ1, true_and, and_true, decide_true, Nat.reduceAdd, Nat.reduceLeDiff, if_true, if_false, eq_self, gfld_in, gobj_in, garr_in, garq_in, glen_in, gisO_in, ex_some, List.getElem?_cons_succ, List.getElem?_cons_zero, List.length_cons, List.length_nil, List.set_cons_succ, List.set_cons_zero, Nat.reduceLT, va_up_eq, va_up_nl, mW_0, mW_p0, nI_1]
          exact ih (j + 1) _ (by omega) hv ta
      · rw [if_pos (fun z => q z.2), gfst, if_pos q, Nat.sub_self]
        rfl
  simp only [eX6_next_38, eX6_next_39, eX6_next_40, eX6_next_43, eX6_next_46, eX6_next_47, eX6_next_50, eX6_next_51, eX6_next_54, Option.toList_some, Option.toList_none, List.cons_append, List.nil_append, gcat_nil, gcat_cons, cat_int, cat_ref, cat_null, cat_ret, cat_long, grc_ref, narZ0, narZ1, true_and, and_true, decide_true, Nat.reduceAdd, Nat.reduceLeDiff, if_true, if_false, eq_self, gfld_in, gobj_in, garr_in, garq_in, glen_in, gisO_in, ex_some, List.getElem?_cons_succ, List.getElem?_cons_zero, List.length_cons, List.length_nil, List.set_cons_succ, List.set_cons_zero, Nat.reduceLT, va_up_eq, va_up_nl, mW_0, mW_p0]
  by_cases q : l ≤ s
  · have es : s = l := by omega
    unfold tEn tK tVa
    rw [if_pos q, if_pos q, if_pos q, es]
    simp only [eX6_next_57, eX6_next_58, eX6_next_61, eX6_next_64, eX6_next_269, Option.toList_some, Option.toList_none, List.cons_append, List.nil_append, gcat_nil, gcat_cons, cat_int, cat_ref, cat_null, cat_ret, cat_long, grc_ref, narZ0, narZ1, true_and, and_true, decide_true, Nat.reduceAdd, Nat.reduceLeDiff, if_true, if_false, eq_self, gfld_in, gobj_in, garr_in, garq_in, glen_in, gisO_in, ex_some, List.getElem?_cons_succ, List.getElem?_cons_zero, List.length_cons, List.length_nil, List.set_cons_succ, List.set_cons_zero, Nat.reduceLT, va_up_eq, va_up_nl, mW_0, mW_p0, not_true_eq_false]
    rfl
  · have es : ¬ nI s = nI l := fun z => by have := (nI_eq (by omega) (by omega)).mp z; omega
    have hsl : s ≤ l := hs.2
    obtain ⟨h1, h2⟩ := ht.2 s (by omega)
    have vs : vp_in (nI s) 150 := vp_in_nI (by omega) (by omega)
    unfold tEn tK tVa
    rw [if_neg q, if_neg q, if_neg q]
    simp only [eX6_next_67, eX6_next_68, eX6_next_71, Option.toList_some, Option.toList_none, List.cons_append, List.nil_append, gcat_nil, gcat_cons, cat_int, cat_ref, cat_null, cat_ret, cat_long, grc_ref, narZ0, narZ1, true_and, and_true, decide_true, Nat.reduceAdd, Nat.reduceLeDiff, if_true, if_false, eq_self, gfld_in, gobj_in, garr_in, garq_in, glen_in, gisO_in, ex_some, List.getElem?_cons_succ, List.getElem?_cons_zero, List.length_cons, List.length_nil, List.set_cons_succ, List.set_cons_zero, Nat.reduceLT, va_up_eq, va_up_nl, mW_0, es, not_false_eq_true, c6_isLetter ht hsl, gb_0]
    by_cases q1 : tLet tv s
    · rw [if_pos q1, if_pos q1, if_pos q1, if_neg (fun z => z ⟨by omega, q1⟩), words (l - s) s (by omega)]
      have ew : gfst (fun j => ¬ tLet tv j) s (l - s) = tWe tv l s := rfl
      have hwe := gfst_le (fun j => ¬ tLet tv j) (l - s) s
      have hah := fun i => gfst_ah (fun j => ¬ tLet tv j) (l - s) s i
      rw [ew] at hwe hah ⊢
      simp only [eX6_next_94, eX6_next_95, eX6_next_96, Option.toList_some, Option.toList_none, List.cons_append, List.nil_append, gcat_nil, gcat_cons, cat_int, cat_ref, cat_null, cat_ret, cat_long, grc_ref, narZ0, narZ1, true_and, and_true, decide_true, Nat.reduceAdd, Nat.reduceLeDiff, if_true, if_false, eq_self, gfld_in, gobj_in, garr_in, garq_in, glen_in, gisO_in, ex_some, List.getElem?_cons_succ, List.getElem?_cons_zero, List.length_cons, List.length_nil, List.set_cons_succ, List.set_cons_zero, Nat.reduceLT, va_up_eq, va_up_nl, mW_0, c6_wordTo ht (s := s) (e := tWe tv l s) (by omega) (by omega) (fun j h1 h2 => Decidable.not_not.mp (hah j h1 h2))]
      simp only [eX6_next_99, eX6_next_102, eX6_next_269, Option.toList_some, Option.toList_none, List.cons_append, List.nil_append, gcat_nil, gcat_cons, cat_int, cat_ref, cat_null, cat_ret, cat_long, grc_ref, narZ0, narZ1, true_and, and_true, decide_true, Nat.reduceAdd, Nat.reduceLeDiff, if_true, if_false, eq_self, gfld_in, gobj_in, garr_in, garq_in, glen_in, gisO_in, ex_some, List.getElem?_cons_succ, List.getElem?_cons_zero, List.length_cons, List.length_nil, List.set_cons_succ, List.set_cons_zero, Nat.reduceLT, va_up_eq, va_up_nl, mW_0, mW_p0]
    · rw [if_neg q1, if_neg q1, if_neg q1, if_pos (fun z => q1 z.2)]
      simp only [eX6_next_105, eX6_next_106, eX6_next_109, Option.toList_some, Option.toList_none, List.cons_append, List.nil_append, gcat_nil, gcat_cons, cat_int, cat_ref, cat_null, cat_ret, cat_long, grc_ref, narZ0, narZ1, true_and, and_true, decide_true, Nat.reduceAdd, Nat.reduceLeDiff, if_true, if_false, eq_self, gfld_in, gobj_in, garr_in, garq_in, glen_in, gisO_in, ex_some, List.getElem?_cons_succ, List.getElem?_cons_zero, List.length_cons, List.length_nil, List.set_cons_succ, List.set_cons_zero, Nat.reduceLT, va_up_eq, va_up_nl, mW_0, c6_isFigure ht hsl, gb_0]
      by_cases q2 : tFig tv s
      · rw [if_pos q2, if_pos q2, if_pos q2, if_neg (fun z => z ⟨by omega, q2⟩)]
        simp only [eX6_next_112, eX6_next_113, eX6_next_114, Option.toList_some, Option.toList_none, List.cons_append, List.nil_append, gcat_nil, gcat_cons, cat_int, cat_ref, cat_null, cat_ret, cat_long, grc_ref, narZ0, narZ1, true_and, and_true, decide_true, Nat.reduceAdd, Nat.reduceLeDiff, if_true, if_false, eq_self, gfld_in, gobj_in, garr_in, garq_in, glen_in, gisO_in, ex_some, List.getElem?_cons_succ, List.getElem?_cons_zero, List.length_cons, List.length_nil, List.set_cons_succ, List.set_cons_zero, Nat.reduceLT, va_up_eq, va_up_nl, mW_0, mW_p0]
        have hf := figs (l - s) s 0 (by omega) (by omega) (nI s)
        rw [show (nI 0 : Int32) = 0 from rfl] at hf
        rw [hf]
        have ew : gfst (fun j => ¬ tFig tv j) s (l - s) = tFe tv l s := rfl
        have hfe := gfst_le (fun j => ¬ tFig tv j) (l - s) s
        rw [ew] at hfe ⊢
        have c1 : (nI (s + 2) < nI (tFe tv l s)) ↔ s + 2 < tFe tv l s := by
          constructor
          · intro z
            by_cases q : s + 2 < tFe tv l s
            · exact q
            · exact absurd z (nI_nlt (by omega) (by omega))
          · intro z; exact nI_lt z (by omega)
        have c2 : (nI (tFe tv l s) ≤ nI (s + 1)) ↔ tFe tv l s ≤ s + 1 := by
          constructor
          · intro z
            by_cases q : tFe tv l s ≤ s + 1
            · exact q
            · exact absurd z (nI_ge (by omega) (by omega))
          · intro z; exact nI_le z (by omega)
        have c3 : (nI (tv s) = 48) ↔ tv s = 48 := nI_eq (b := 48) (by omega) (by omega)
        simp only [eX6_next_177, eX6_next_178, eX6_next_179, eX6_next_182, eX6_next_183, eX6_next_186, eX6_next_187, eX6_next_188, Option.toList_some, Option.toList_none, List.cons_append, List.nil_append, gcat_nil, gcat_cons, cat_int, cat_ref, cat_null, cat_ret, cat_long, grc_ref, narZ0, narZ1, true_and, and_true, decide_true, Nat.reduceAdd, Nat.reduceLeDiff, if_true, if_false, eq_self, gfld_in, gobj_in, garr_in, garq_in, glen_in, gisO_in, ex_some, List.getElem?_cons_succ, List.getElem?_cons_zero, List.length_cons, List.length_nil, List.set_cons_succ, List.set_cons_zero, Nat.reduceLT, va_up_eq, va_up_nl, mW_0, nIp2, c1]
        by_cases q3 : s + 2 < tFe tv l s
        · rw [if_pos q3, if_pos (Or.inl q3)]
          simp only [eX6_next_218, eX6_next_221, eX6_next_227, eX6_next_230, eX6_next_269, Option.toList_some, Option.toList_none, List.cons_append, List.nil_append, gcat_nil, gcat_cons, cat_int, cat_ref, cat_null, cat_ret, cat_long, grc_ref, narZ0, narZ1, true_and, and_true, decide_true, Nat.reduceAdd, Nat.reduceLeDiff, if_true, if_false, eq_self, gfld_in, gobj_in, garr_in, garq_in, glen_in, gisO_in, ex_some, List.getElem?_cons_succ, List.getElem?_cons_zero, List.length_cons, List.length_nil, List.set_cons_succ, List.set_cons_zero, Nat.reduceLT, va_up_eq, va_up_nl, mW_0, mW_p0]
          rfl
        · rw [if_neg q3]
          simp only [eX6_next_191, eX6_next_192, eX6_next_195, eX6_next_196, eX6_next_199, eX6_next_200, eX6_next_202, Option.toList_some, Option.toList_none, List.cons_append, List.nil_append, gcat_nil, gcat_cons, cat_int, cat_ref, cat_null, cat_ret, cat_long, grc_ref, narZ0, narZ1, true_and, and_true, decide_true, Nat.reduceAdd, Nat.reduceLeDiff, if_true, if_false, eq_self, gfld_in, gobj_in, garr_in, garq_in, glen_in, gisO_in, ex_some, List.getElem?_cons_succ, List.getElem?_cons_zero, List.length_cons, List.length_nil, List.set_cons_succ, List.set_cons_zero, Nat.reduceLT, va_up_eq, va_up_nl, mW_0, mW_6, vs, nI_clamp (show s < 2 ^ 31 by omega), h1, c3]
          by_cases q4 : tv s = 48
          · rw [if_neg (fun z => z q4)]
            simp only [eX6_next_205, eX6_next_206, eX6_next_209, eX6_next_210, eX6_next_213, eX6_next_214, eX6_next_215, Option.toList_some, Option.toList_none, List.cons_append, List.nil_append, gcat_nil, gcat_cons, cat_int, cat_ref, cat_null, cat_ret, cat_long, grc_ref, narZ0, narZ1, true_and, and_true, decide_true, Nat.reduceAdd, Nat.reduceLeDiff, if_true, if_false, eq_self, gfld_in, gobj_in, garr_in, garq_in, glen_in, gisO_in, ex_some, List.getElem?_cons_succ, List.getElem?_cons_zero, List.length_cons, List.length_nil, List.set_cons_succ, List.set_cons_zero, Nat.reduceLT, va_up_eq, va_up_nl, mW_0, nI_1, c2]
            by_cases q5 : tFe tv l s ≤ s + 1
            · rw [if_pos q5, if_neg (fun z => z.elim q3 (fun z => by omega))]
              simp only [eX6_next_224, eX6_next_227, eX6_next_230, eX6_next_269, Option.toList_some, Option.toList_none, List.cons_append, List.nil_append, gcat_nil, gcat_cons, cat_int, cat_ref, cat_null, cat_ret, cat_long, grc_ref, narZ0, narZ1, true_and, and_true, decide_true, Nat.reduceAdd, Nat.reduceLeDiff, if_true, if_false, eq_self, gfld_in, gobj_in, garr_in, garq_in, glen_in, gisO_in, ex_some, List.getElem?_cons_succ, List.getElem?_cons_zero, List.length_cons, List.length_nil, List.set_cons_succ, List.set_cons_zero, Nat.reduceLT, va_up_eq, va_up_nl, mW_0, mW_p0]
              rfl
            · rw [if_neg q5, if_pos (Or.inr ⟨q4, by omega⟩)]
              simp only [eX6_next_218, eX6_next_221, eX6_next_227, eX6_next_230, eX6_next_269, Option.toList_some, Option.toList_none, List.cons_append, List.nil_append, gcat_nil, gcat_cons, cat_int, cat_ref, cat_null, cat_ret, cat_long, grc_ref, narZ0, narZ1, true_and, and_true, decide_true, Nat.reduceAdd, Nat.reduceLeDiff, if_true, if_false, eq_self, gfld_in, gobj_in, garr_in, garq_in, glen_in, gisO_in, ex_some, List.getElem?_cons_succ, List.getElem?_cons_zero, List.length_cons, List.length_nil, List.set_cons_succ, List.set_cons_zero, Nat.reduceLT, va_up_eq, va_up_nl, mW_0, mW_p0]
              rfl
          · rw [if_pos q4, if_neg (fun z => z.elim q3 (fun z => q4 z.1))]
            simp only [eX6_next_224, eX6_next_227, eX6_next_230, eX6_next_269, Option.toList_some, Option.toList_none, List.cons_append, List.nil_append, gcat_nil, gcat_cons, cat_int, cat_ref, cat_null, cat_ret, cat_long, grc_ref, narZ0, narZ1, true_and, and_true, decide_true, Nat.reduceAdd, Nat.reduceLeDiff, if_true, if_false, eq_self, gfld_in, gobj_in, garr_in, garq_in, glen_in, gisO_in, ex_some, List.getElem?_cons_succ, List.getElem?_cons_zero, List.length_cons, List.length_nil, List.set_cons_succ, List.set_cons_zero, Nat.reduceLT, va_up_eq, va_up_nl, mW_0, mW_p0]
            rfl
      · rw [if_neg q2, if_neg q2, if_neg q2, if_pos (fun z => q2 z.2)]
        have c3 : (nI (tv s) = 59) ↔ tv s = 59 := nI_eq (b := 59) (by omega) (by omega)
        simp only [eX6_next_233, eX6_next_234, eX6_next_235, eX6_next_238, eX6_next_239, eX6_next_242, eX6_next_243, eX6_next_245, Option.toList_some, Option.toList_none, List.cons_append, List.nil_append, gcat_nil, gcat_cons, cat_int, cat_ref, cat_null, cat_ret, cat_long, grc_ref, narZ0, narZ1, true_and, and_true, decide_true, Nat.reduceAdd, Nat.reduceLeDiff, if_true, if_false, eq_self, gfld_in, gobj_in, garr_in, garq_in, glen_in, gisO_in, ex_some, List.getElem?_cons_succ, List.getElem?_cons_zero, List.length_cons, List.length_nil, List.set_cons_succ, List.set_cons_zero, Nat.reduceLT, va_up_eq, va_up_nl, mW_0, mW_6, vs, nI_clamp (show s < 2 ^ 31 by omega), h1, c3]
        by_cases q3 : tv s = 59
        · rw [if_neg (fun z => z q3), if_pos q3]
          simp only [eX6_next_248, eX6_next_250, eX6_next_256, eX6_next_259, eX6_next_260, eX6_next_260b, eX6_next_261, eX6_next_264, eX6_next_265, eX6_next_266, eX6_next_269, Option.toList_some, Option.toList_none, List.cons_append, List.nil_append, gcat_nil, gcat_cons, cat_int, cat_ref, cat_null, cat_ret, cat_long, grc_ref, narZ0, narZ1, true_and, and_true, decide_true, Nat.reduceAdd, Nat.reduceLeDiff, if_true, if_false, eq_self, gfld_in, gobj_in, garr_in, garq_in, glen_in, gisO_in, ex_some, List.getElem?_cons_succ, List.getElem?_cons_zero, List.length_cons, List.length_nil, List.set_cons_succ, List.set_cons_zero, Nat.reduceLT, va_up_eq, va_up_nl, mW_0, mW_p0, nI_1]
          rfl
        · rw [if_pos q3, if_neg q3]
          simp only [eX6_next_253, eX6_next_256, eX6_next_259, eX6_next_260, eX6_next_260b, eX6_next_261, eX6_next_264, eX6_next_265, eX6_next_266, eX6_next_269, Option.toList_some, Option.toList_none, List.cons_append, List.nil_append, gcat_nil, gcat_cons, cat_int, cat_ref, cat_null, cat_ret, cat_long, grc_ref, narZ0, narZ1, true_and, and_true, decide_true, Nat.reduceAdd, Nat.reduceLeDiff, if_true, if_false, eq_self, gfld_in, gobj_in, garr_in, garq_in, glen_in, gisO_in, ex_some, List.getElem?_cons_succ, List.getElem?_cons_zero, List.length_cons, List.length_nil, List.set_cons_succ, List.set_cons_zero, Nat.reduceLT, va_up_eq, va_up_nl, mW_0, mW_p0, nI_1]
          rfl
theorem tVa_N {va : Int32} {s : Nat} (h : tK tv l s = 2) : tVa va tv l s = nI (tN tv l s) := by
  unfold tK at h
  unfold tVa tN
  by_cases q : l ≤ s
  · rw [if_pos q] at h; omega
  · rw [if_neg q] at h ⊢
    by_cases q1 : tLet tv s
    · rw [if_pos q1] at h
      have := tWk_ge (tW9 tv s (tWe tv l s)); omega
    · rw [if_neg q1] at h ⊢
      by_cases q2 : tFig tv s
      · rw [if_pos q2]
      · rw [if_neg q2] at h
        by_cases q3 : tv s = 59
        · rw [if_pos q3] at h; omega
        · rw [if_neg q3] at h; omega
theorem upd_same {f : Nat → Int32} {c : Nat} : upd f c (f c) = f := by
  funext z
  unfold upd
  by_cases q : z = c
  · rw [if_pos q, q]
  · rw [if_neg q]
theorem c6_readNumber (ht : gtx tx tv l) (hp : p ≤ l) {c lo hi : Nat} (hc : c < 59) (hlo : lo < 256) (hhi : hi < 256) : gEv (gT X) 126 0 [.ref o, .int (nI c), .int (nI lo), .int (nI hi), .null] [] n k (mW w o nw rd ps de im ik tx (nI l) (nI p) tk ta va fa se it al ln fz fb be fo fm io) Q ↔ (if tOk tv l (tSk tv l p) lo hi then Q (some (.int 1)) n k (mW w o nw (upd rd c (nI (tN tv l (tSk tv l p)))) ps de im ik tx (nI l) (nI (tEn tv l (tSk tv l p))) (tTok (tK tv l (tSk tv l p))) (nI (tSk tv l p)) (tVa va tv l (tSk tv l p)) fa se it al ln fz fb be fo fm io) else Q (some (.int 0)) n k (mW w o nw rd ps de im ik tx (nI l) (nI (tEn tv l (tSk tv l p))) (tTok (tK tv l (tSk tv l p))) (nI (tSk tv l p)) (tVa va tv l (tSk tv l p)) fa se it al ln fz fb be fo fm io)) := by
  have vc : vp_in (nI c) 59 := vp_in_nI hc (by omega)
  have e2 : (tTok (tK tv l (tSk tv l p)) = 1002) ↔ tK tv l (tSk tv l p) = 2 := tTok_inj _ (by have := tK_le tv l (tSk tv l p); omega) 2 (by omega)
  have hN := tN_lt tv l (tSk tv l p)
  have h10 : ¬ (1 : Int32) = 0 := by decide
  simp only [eX6_readNumber_0, eX6_readNumber_1, eX6_readNumber_4, eX6_readNumber_5, eX6_readNumber_8, eX6_readNumber_11, Option.toList_some, Option.toList_none, List.cons_append, List.nil_append, gcat_nil, gcat_cons, cat_int, cat_ref, cat_null, cat_ret, cat_long, grc_ref, narZ0, narZ1, true_and, and_true, decide_true, Nat.reduceAdd, Nat.reduceLeDiff, if_true, if_false, eq_self, gfld_in, gobj_in, garr_in, garq_in, glen_in, gisO_in, ex_some, List.getElem?_cons_succ, List.getElem?_cons_zero, List.length_cons, List.length_nil, List.set_cons_succ, List.set_cons_zero, Nat.reduceLT, va_up_eq, va_up_nl, mW_0, c6_next ht hp, e2]
  by_cases q : tK tv l (tSk tv l p) = 2
  · rw [if_neg (fun z => z q)]
    have ei : (nI lo ≤ nI (tN tv l (tSk tv l p)) ∧ nI (tN tv l (tSk tv l p)) ≤ nI hi) ↔ (lo ≤ tN tv l (tSk tv l p) ∧ tN tv l (tSk tv l p) ≤ hi) := by
      constructor
      · rintro ⟨h1, h2⟩
        constructor
        · by_cases q : lo ≤ tN tv l (tSk tv l p)
          · exact q
          · exact absurd h1 (nI_ge (by omega) (by omega))
        · by_cases q : tN tv l (tSk tv l p) ≤ hi
          · exact q
          · exact absurd h2 (nI_ge (by omega) (by omega))
      · rintro ⟨h1, h2⟩
        exact ⟨nI_le h1 (by omega), nI_le h2 (by omega)⟩
    simp only [eX6_readNumber_14, eX6_readNumber_15, eX6_readNumber_18, eX6_readNumber_19, eX6_readNumber_20, eX6_readNumber_23, Option.toList_some, Option.toList_none, List.cons_append, List.nil_append, gcat_nil, gcat_cons, cat_int, cat_ref, cat_null, cat_ret, cat_long, grc_ref, narZ0, narZ1, true_and, and_true, decide_true, Nat.reduceAdd, Nat.reduceLeDiff, if_true, if_false, eq_self, gfld_in, gobj_in, garr_in, garq_in, glen_in, gisO_in, ex_some, List.getElem?_cons_succ, List.getElem?_cons_zero, List.length_cons, List.length_nil, List.set_cons_succ, List.set_cons_zero, Nat.reduceLT, va_up_eq, va_up_nl, mW_0, tVa_N q, c6_in, gb_0, ei]
    by_cases q2 : lo ≤ tN tv l (tSk tv l p) ∧ tN tv l (tSk tv l p) ≤ hi
    · rw [if_neg (fun z => z q2), if_pos ⟨q, q2⟩]
      simp only [eX6_readNumber_26, eX6_readNumber_27, eX6_readNumber_31, eX6_readNumber_31b, eX6_readNumber_31c, eX6_readNumber_31d, eX6_readNumber_33, eX6_readNumber_34, eX6_readNumber_37, eX6_readNumber_38, eX6_readNumber_40, eX6_readNumber_43, eX6_readNumber_44, eX6_readNumber_47, eX6_readNumber_56, eX6_readNumber_57, eX6_readNumber_59, Option.toList_some, Option.toList_none, List.cons_append, List.nil_append, gcat_nil, gcat_cons, cat_int, cat_ref, cat_null, cat_ret, cat_long, grc_ref, narZ0, narZ1, true_and, and_true, decide_true, Nat.reduceAdd, Nat.reduceLeDiff, if_true, if_false, eq_self, gfld_in, gobj_in, garr_in, garq_in, glen_in, gisO_in, ex_some, List.getElem?_cons_succ, List.getElem?_cons_zero, List.length_cons, List.length_nil, List.set_cons_succ, List.set_cons_zero, Nat.reduceLT, va_up_eq, va_up_nl, mW_0, mW_2, vc, nI_clamp (show c < 2 ^ 31 by omega), h10, mW_p2]
    · rw [if_pos q2, if_neg (fun z => q2 z.2)]
      simp only [eX6_readNumber_30, eX6_readNumber_31, eX6_readNumber_31b, eX6_readNumber_31c, eX6_readNumber_31d, eX6_readNumber_33, eX6_readNumber_34, eX6_readNumber_37, eX6_readNumber_38, eX6_readNumber_40, eX6_readNumber_50, eX6_readNumber_51, eX6_readNumber_54, eX6_readNumber_55, eX6_readNumber_56, eX6_readNumber_57, eX6_readNumber_59, Option.toList_some, Option.toList_none, List.cons_append, List.nil_append, gcat_nil, gcat_cons, cat_int, cat_ref, cat_null, cat_ret, cat_long, grc_ref, narZ0, narZ1, true_and, and_true, decide_true, Nat.reduceAdd, Nat.reduceLeDiff, if_true, if_false, eq_self, gfld_in, gobj_in, garr_in, garq_in, glen_in, gisO_in, ex_some, List.getElem?_cons_succ, List.getElem?_cons_zero, List.length_cons, List.length_nil, List.set_cons_succ, List.set_cons_zero, Nat.reduceLT, va_up_eq, va_up_nl, mW_0, mW_2, vc, nI_clamp (show c < 2 ^ 31 by omega), mW_p2, upd_same]
  · rw [if_pos q, if_neg (fun z => q z.1)]
    simp only [eX6_readNumber_30, eX6_readNumber_31, eX6_readNumber_31b, eX6_readNumber_31c, eX6_readNumber_31d, eX6_readNumber_33, eX6_readNumber_34, eX6_readNumber_37, eX6_readNumber_38, eX6_readNumber_40, eX6_readNumber_50, eX6_readNumber_51, eX6_readNumber_54, eX6_readNumber_55, eX6_readNumber_56, eX6_readNumber_57, eX6_readNumber_59, Option.toList_some, Option.toList_none, List.cons_append, List.nil_append, gcat_nil, gcat_cons, cat_int, cat_ref, cat_null, cat_ret, cat_long, grc_ref, narZ0, narZ1, true_and, and_true, decide_true, Nat.reduceAdd, Nat.reduceLeDiff, if_true, if_false, eq_self, gfld_in, gobj_in, garr_in, garq_in, glen_in, gisO_in, ex_some, List.getElem?_cons_succ, List.getElem?_cons_zero, List.length_cons, List.length_nil, List.set_cons_succ, List.set_cons_zero, Nat.reduceLT, va_up_eq, va_up_nl, mW_0, mW_2, vc, nI_clamp (show c < 2 ^ 31 by omega), mW_p2, upd_same]
end MU
