/-! THE MODEL: its calls, second half -/
section MB2
variable {X : gX} {n k : Nat} {w : gH} {Q : Option Value → Nat → Nat → gH → Prop} {o : Nat} {nw rd ps im ik tx fa al be fo io : Nat → Int32} {de le pz tk ta va se it ln fz fb fm : Int32} {K N d : Nat} {We : Nat → Nat}
theorem c6_takes_bad (hN : N ≤ 6) (h31 : nw 31 = nI N) {a : Int32} (h : ¬ (0 ≤ a ∧ a < nI N)) : gEv (gT X) 156 0 [.ref o, .int a, .null] [] n k (mW w o nw rd ps de im ik tx le pz tk ta va fa se it al ln fz fb be fo fm io) Q ↔ Q (some (.int (-1))) n k (mW w o nw rd ps de im ik tx le pz tk ta va fa se it al ln fz fb be fo fm io) := by
  simp only [eX6_takes_0, eX6_takes_1, eX6_takes_2, eX6_takes_5, eX6_takes_8, eX6_takes_9, Option.toList_some, Option.toList_none, List.cons_append, List.nil_append, gcat_nil, gcat_cons, cat_int, cat_ref, cat_null, cat_ret, cat_long, grc_ref, narZ0, narZ1, true_and, and_true, decide_true, Nat.reduceAdd, Nat.reduceLeDiff, if_true, if_false, eq_self, gfld_in, gobj_in, garr_in, garq_in, glen_in, gisO_in, ex_some, List.getElem?_cons_succ, List.getElem?_cons_zero, List.length_cons, List.length_nil, List.set_cons_succ, List.set_cons_zero, Nat.reduceLT, va_up_eq, va_up_nl, mW_0, c6_isTest h31 hN, gb_0, h, not_false_eq_true, not_true_eq_false]
def mtakes (nw : Nat → Int32) (t N : Nat) : Nat → Int32 := mempty (upd (mrng (3 * t + 32) 47 (fun z => nw (z + 3)) nw) 31 (nI (N - 1)))
theorem c6_takes (hN : N ≤ 6) (h31 : nw 31 = nI N) (hd : d ≤ 6) {t : Nat} (ht : t < N) : gEv (gT X) 156 0 [.ref o, .int (nI t), .null] [] n k (mW w o nw rd ps (nI d) im ik tx le pz tk ta va fa se it al ln fz fb be fo fm io) Q ↔ Q (some (.int (nI (N - 1)))) n k (mW w o (mtakes nw t N) rd (mnote nw ps d) (nI (if d = 6 then 6 else d + 1)) im ik tx le pz tk ta va fa se it al ln fz fb be fo fm io) := by
  have h1 : 0 ≤ nI t ∧ nI t < nI N := ⟨nI_pos' (by omega), nI_lt ht (by omega)⟩
  have v0 : vp_in 31 59 := vp_in_nI (n := 31) (by omega) (by omega)
  have y0 : (31 : Int32).toNatClampNeg = 31 := by decide
  have e3 : 3 * nI t = nI (3 * t) := by rw [show (3 : Int32) = nI 3 from rfl, pk_mul]
  have e32 : 32 + nI (3 * t) = nI (3 * t + 32) := by rw [show (32 : Int32) = nI 32 from rfl, nI_add, Nat.add_comm]
  have lp : ∀ (D j : Nat), j + D = 47 → 3 * t + 32 ≤ j → (gEv (gT X) 156 21 [.ref o, .int (nI t), .int (nI j)] [] n k (mW w o (mrng (3 * t + 32) j (fun z => nw (z + 3)) nw) rd (mnote nw ps d) (nI (if d = 6 then 6 else d + 1)) im ik tx le pz tk ta va fa se it al ln fz fb be fo fm io) Q ↔ Q (some (.int (nI (N - 1)))) n k (mW w o (mtakes nw t N) rd (mnote nw ps d) (nI (if d = 6 then 6 else d + 1)) im ik tx le pz tk ta va fa se it al ln fz fb be fo fm io)) := by
    intro D
    induction D with
    | zero =>
      intro j hj hj2
      have hc : 50 ≤ nI (j + 3) := nI_le (a := 50) (by omega) (by omega)
      have z2 : mrng (3 * t + 32) 47 (fun z => nw (z + 3)) nw 31 = nI N := by rw [mrng_out (by omega), h31]
      have e1 : nI N - 1 = nI (N - 1) := by
        rw [show N = N - 1 + 1 by omega, nI_pred]
        rfl
      have em : mtakes nw t N 31 = nI (N - 1) := by
        unfold mtakes
        rw [mempty_lo (by omega), pk_us]
      rw [show j = 47 by omega] at hc ⊢
      rw [eX6_takes_21]
      simp only [eX6_takes_0, eX6_takes_1, eX6_takes_2, eX6_takes_5, eX6_takes_8, eX6_takes_9, eX6_takes_10, eX6_takes_11, eX6_takes_14, eX6_takes_16, eX6_takes_17, eX6_takes_18, eX6_takes_19, eX6_takes_20, eX6_takes_20b, eX6_takes_20c, eX6_takes_20d, eX6_takes_22, eX6_takes_23, eX6_takes_24, eX6_takes_26, eX6_takes_29, eX6_takes_30, eX6_takes_33, eX6_takes_34, eX6_takes_35, eX6_takes_38, eX6_takes_39, eX6_takes_40, eX6_takes_41, eX6_takes_42, eX6_takes_43, eX6_takes_43b, eX6_takes_43c, eX6_takes_43d, eX6_takes_46, eX6_takes_49, eX6_takes_50, eX6_takes_53, eX6_takes_55, eX6_takes_56, eX6_takes_57, eX6_takes_58, eX6_takes_59, eX6_takes_60, eX6_takes_61, eX6_takes_64, eX6_takes_65, eX6_takes_68, eX6_takes_70, eX6_takes_71, Option.toList_some, Option.toList_none, List.cons_append, List.nil_append, gcat_nil, gcat_cons, cat_int, cat_ref, cat_null, cat_ret, cat_long, grc_ref, narZ0, narZ1, true_and, and_true, decide_true, Nat.reduceAdd, Nat.reduceLeDiff, if_true, if_false, eq_self, gfld_in, gobj_in, garr_in, garq_in, glen_in, gisO_in, ex_some, List.getElem?_cons_succ, List.getElem?_cons_zero, List.length_cons, List.length_nil, List.set_cons_succ, List.set_cons_zero, Nat.reduceLT, va_up_eq, va_up_nl, nIp3, hc, mW_0, mW_1, v0, y0, z2, e1, mW_p1, c6_emptyAll]
      rw [show mempty (upd (mrng (3 * t + 32) 47 (fun z => nw (z + 3)) nw) 31 (nI (N - 1))) = mtakes nw t N from rfl, em]
    | succ D ih =>
      intro j hj hj2
      have hc : ¬ 50 ≤ nI (j + 3) := nI_ge (b := 50) (by omega) (by omega)
      have w1 : vp_in (nI j) 59 := vp_in_nI (by omega) (by omega)
      have w2 : vp_in (nI (j + 3)) 59 := vp_in_nI (by omega) (by omega)
      have e0 : mrng (3 * t + 32) j (fun z => nw (z + 3)) nw (j + 3) = nw (j + 3) := mrng_out (by omega)
      have e1 := mrng_up (lo := 3 * t + 32) (k := j) (f := fun z => nw (z + 3)) (g := nw) (x := nw (j + 3)) hj2 rfl
      rw [eX6_takes_21]
      simp only [eX6_takes_0, eX6_takes_1, eX6_takes_2, eX6_takes_5, eX6_takes_8, eX6_takes_9, eX6_takes_10, eX6_takes_11, eX6_takes_14, eX6_takes_16, eX6_takes_17, eX6_takes_18, eX6_takes_19, eX6_takes_20, eX6_takes_20b, eX6_takes_20c, eX6_takes_20d, eX6_takes_22, eX6_takes_23, eX6_takes_24, eX6_takes_26, eX6_takes_29, eX6_takes_30, eX6_takes_33, eX6_takes_34, eX6_takes_35, eX6_takes_38, eX6_takes_39, eX6_takes_40, eX6_takes_41, eX6_takes_42, eX6_takes_43, eX6_takes_43b, eX6_takes_43c, eX6_takes_43d, eX6_takes_46, eX6_takes_49, eX6_takes_50, eX6_takes_53, eX6_takes_55, eX6_takes_56, eX6_takes_57, eX6_takes_58, eX6_takes_59, eX6_takes_60, eX6_takes_61, eX6_takes_64, eX6_takes_65, eX6_takes_68, eX6_takes_70, eX6_takes_71, Option.toList_some, Option.toList_none, List.cons_append, List.nil_append, gcat_nil, gcat_cons, cat_int, cat_ref, cat_null, cat_ret, cat_long, grc_ref, narZ0, narZ1, true_and, and_true, decide_true, Nat.reduceAdd, Nat.reduceLeDiff, if_true, if_false, eq_self, gfld_in, gobj_in, garr_in, garq_in, glen_in, gisO_in, ex_some, List.getElem?_cons_succ, List.getElem?_cons_zero, List.length_cons, List.length_nil, List.set_cons_succ, List.set_cons_zero, Nat.reduceLT, va_up_eq, va_up_nl, nIp3, hc, mW_0, mW_1, w1, w2, nI_clamp (show j < 2 ^ 31 by omega), nI_clamp (show j + 3 < 2 ^ 31 by omega), e0, e1, mW_p1, nI_1]
      exact ih (j + 1) (by omega) (by omega)
  simp only [eX6_takes_0, eX6_takes_1, eX6_takes_2, eX6_takes_5, eX6_takes_8, eX6_takes_9, eX6_takes_10, eX6_takes_11, eX6_takes_14, eX6_takes_16, eX6_takes_17, eX6_takes_18, eX6_takes_19, eX6_takes_20, eX6_takes_20b, eX6_takes_20c, eX6_takes_20d, Option.toList_some, Option.toList_none, List.cons_append, List.nil_append, gcat_nil, gcat_cons, cat_int, cat_ref, cat_null, cat_ret, cat_long, grc_ref, narZ0, narZ1, true_and, and_true, decide_true, Nat.reduceAdd, Nat.reduceLeDiff, if_true, if_false, eq_self, gfld_in, gobj_in, garr_in, garq_in, glen_in, gisO_in, ex_some, List.getElem?_cons_succ, List.getElem?_cons_zero, List.length_cons, List.length_nil, List.set_cons_succ, List.set_cons_zero, Nat.reduceLT, va_up_eq, va_up_nl, mW_0, c6_isTest h31 hN, gb_0, h1, not_false_eq_true, not_true_eq_false, c6_note hd, e3, e32]
  have := lp (47 - (3 * t + 32)) (3 * t + 32) (by omega) (by omega)
  rw [mrng_nil] at this
  exact this
theorem c6_sets_bad (hN : N ≤ 6) (h31 : nw 31 = nI N) {a b : Int32} (h : ¬ (0 ≤ a ∧ a < nI N)) : gEv (gT X) 157 0 [.ref o, .int a, .int b, .null] [] n k (mW w o nw rd ps de im ik tx le pz tk ta va fa se it al ln fz fb be fo fm io) Q ↔ Q (some (.int (-1))) n k (mW w o nw rd ps de im ik tx le pz tk ta va fa se it al ln fz fb be fo fm io) := by
  simp only [eX6_sets_0, eX6_sets_1, eX6_sets_2, eX6_sets_5, eX6_sets_33, eX6_sets_34, Option.toList_some, Option.toList_none, List.cons_append, List.nil_append, gcat_nil, gcat_cons, cat_int, cat_ref, cat_null, cat_ret, cat_long, grc_ref, narZ0, narZ1, true_and, and_true, decide_true, Nat.reduceAdd, Nat.reduceLeDiff, if_true, if_false, eq_self, gfld_in, gobj_in, garr_in, garq_in, glen_in, gisO_in, ex_some, List.getElem?_cons_succ, List.getElem?_cons_zero, List.length_cons, List.length_nil, List.set_cons_succ, List.set_cons_zero, Nat.reduceLT, va_up_eq, va_up_nl, mW_0, c6_isTest h31 hN, gb_0, h, not_false_eq_true, not_true_eq_false]
theorem c6_sets (hN : N ≤ 6) (h31 : nw 31 = nI N) (hd : d ≤ 6) {t : Nat} (ht : t < N) {b : Int32} : gEv (gT X) 157 0 [.ref o, .int (nI t), .int b, .null] [] n k (mW w o nw rd ps (nI d) im ik tx le pz tk ta va fa se it al ln fz fb be fo fm io) Q ↔ (if (if nw (3 * t + 32) = 2 then (0 : Int32) else 1) ≤ b ∧ b ≤ (if nw (3 * t + 32) = 2 then 2 else 99) then (if nw (3 * t + 33) = b then Q (some (.int (-2))) n k (mW w o nw rd ps (nI d) im ik tx le pz tk ta va fa se it al ln fz fb be fo fm io) else Q (some (.int (nw (3 * t + 33)))) n k (mW w o (mempty (upd nw (3 * t + 33) b)) rd (mnote nw ps d) (nI (if d = 6 then 6 else d + 1)) im ik tx le pz tk ta va fa se it al ln fz fb be fo fm io)) else Q (some (.int (-1))) n k (mW w o nw rd ps (nI d) im ik tx le pz tk ta va fa se it al ln fz fb be fo fm io)) := by
  have h1 : 0 ≤ nI t ∧ nI t < nI N := ⟨nI_pos' (by omega), nI_lt ht (by omega)⟩
  have ht6 : t < 6 := by omega
  have f1 : ∀ {Q : Option Value → Nat → Nat → gH → Prop}, gEv (gT X) 139 0 [.ref o, .int (nI t), .int 1] [] n k (mW w o nw rd ps (nI d) im ik tx le pz tk ta va fa se it al ln fz fb be fo fm io) Q ↔ Q (some (.int (nw (3 * t + 33)))) n k (mW w o nw rd ps (nI d) im ik tx le pz tk ta va fa se it al ln fz fb be fo fm io) := c6_ofTest ht6 (f := 1) (by decide)
  have f0 : ∀ {Q : Option Value → Nat → Nat → gH → Prop}, gEv (gT X) 139 0 [.ref o, .int (nI t), .int 0] [] n k (mW w o nw rd ps (nI d) im ik tx le pz tk ta va fa se it al ln fz fb be fo fm io) Q ↔ Q (some (.int (nw (3 * t + 32)))) n k (mW w o nw rd ps (nI d) im ik tx le pz tk ta va fa se it al ln fz fb be fo fm io) := c6_ofTest ht6 (f := 0) (by decide)
  have e3 : 3 * nI t = nI (3 * t) := by rw [show (3 : Int32) = nI 3 from rfl, pk_mul]
  have e32 : 32 + nI (3 * t) = nI (3 * t + 32) := by rw [show (32 : Int32) = nI 32 from rfl, nI_add, Nat.add_comm]
  have v2 : vp_in (nI (3 * t + 32 + 1)) 59 := vp_in_nI (by omega) (by omega)
  have y2 : (nI (3 * t + 32 + 1)).toNatClampNeg = 3 * t + 33 := nI_clamp (by omega)
  simp only [eX6_sets_0, eX6_sets_1, eX6_sets_2, eX6_sets_5, eX6_sets_8, eX6_sets_9, eX6_sets_10, eX6_sets_11, eX6_sets_12, eX6_sets_15, eX6_sets_18, eX6_sets_19, eX6_sets_20, eX6_sets_21, eX6_sets_24, eX6_sets_27, eX6_sets_30, eX6_sets_33, eX6_sets_34, eX6_sets_35, eX6_sets_36, eX6_sets_37, eX6_sets_38, eX6_sets_41, eX6_sets_41b, eX6_sets_41c, eX6_sets_41d, eX6_sets_42, eX6_sets_43, eX6_sets_44, eX6_sets_47, eX6_sets_49, eX6_sets_50, eX6_sets_51, eX6_sets_54, eX6_sets_55, eX6_sets_58, eX6_sets_60, eX6_sets_61, eX6_sets_62, eX6_sets_63, eX6_sets_64, eX6_sets_65, eX6_sets_66, eX6_sets_67, eX6_sets_68, eX6_sets_69, eX6_sets_72, eX6_sets_73, Option.toList_some, Option.toList_none, List.cons_append, List.nil_append, gcat_nil, gcat_cons, cat_int, cat_ref, cat_null, cat_ret, cat_long, grc_ref, narZ0, narZ1, true_and, and_true, decide_true, Nat.reduceAdd, Nat.reduceLeDiff, if_true, if_false, eq_self, gfld_in, gobj_in, garr_in, garq_in, glen_in, gisO_in, ex_some, List.getElem?_cons_succ, List.getElem?_cons_zero, List.length_cons, List.length_nil, List.set_cons_succ, List.set_cons_zero, Nat.reduceLT, va_up_eq, va_up_nl, mW_0, mW_1, c6_isTest h31 hN, gb_0, h1, not_false_eq_true, not_true_eq_false, f0, f1, c6_leastOf, c6_mostOf, c6_in, c6_note hd, e3, e32, nI_1, v2, y2, mW_p1, c6_emptyAll]
  by_cases q1 : (if nw (3 * t + 32) = 2 then (0 : Int32) else 1) ≤ b ∧ b ≤ (if nw (3 * t + 32) = 2 then 2 else 99)
  · rw [if_pos (fun z => z q1), if_pos q1]
    by_cases q2 : nw (3 * t + 33) = b
    · rw [if_neg (fun z => z q2), if_pos q2]
    · rw [if_pos q2, if_neg q2]
  · rw [if_neg (fun z => z q1), if_neg q1]
/-- what numbers a kind may have -/
def gkd (a b c r : Int32) : Prop := (1 ≤ a ∧ a ≤ 99) ∧ (1 ≤ b ∧ b ≤ 99) ∧ (0 ≤ c ∧ c ≤ 2) ∧ (0 ≤ r ∧ r ≤ 9) ∧ r < b
theorem c6_adds_bad {a b c r : Int32} (h : ¬ gkd a b c r) : gEv (gT X) 158 0 [.ref o, .int a, .int b, .int c, .int r, .null] [] n k (mW w o nw rd ps de im ik tx le pz tk ta va fa se it al ln fz fb be fo fm io) Q ↔ Q (some (.int (-1))) n k (mW w o nw rd ps de im ik tx le pz tk ta va fa se it al ln fz fb be fo fm io) := by
  simp only [eX6_adds_0, eX6_adds_1, eX6_adds_2, eX6_adds_4, eX6_adds_7, eX6_adds_10, eX6_adds_11, eX6_adds_12, eX6_adds_14, eX6_adds_17, eX6_adds_20, eX6_adds_21, eX6_adds_22, eX6_adds_23, eX6_adds_26, eX6_adds_29, eX6_adds_31, eX6_adds_32, eX6_adds_34, eX6_adds_37, eX6_adds_40, eX6_adds_42, eX6_adds_43, eX6_adds_46, eX6_adds_47, Option.toList_some, Option.toList_none, List.cons_append, List.nil_append, gcat_nil, gcat_cons, cat_int, cat_ref, cat_null, cat_ret, cat_long, grc_ref, narZ0, narZ1, true_and, and_true, decide_true, Nat.reduceAdd, Nat.reduceLeDiff, if_true, if_false, eq_self, gfld_in, gobj_in, garr_in, garq_in, glen_in, gisO_in, ex_some, List.getElem?_cons_succ, List.getElem?_cons_zero, List.length_cons, List.length_nil, List.set_cons_succ, List.set_cons_zero, Nat.reduceLT, va_up_eq, va_up_nl, c6_in, gb_0]
  by_cases h1 : 1 ≤ a ∧ a ≤ 99
  · rw [if_neg (fun z => z h1)]
    by_cases h2 : 1 ≤ b ∧ b ≤ 99
    · rw [if_neg (fun z => z h2)]
      by_cases h3 : 0 ≤ c ∧ c ≤ 2
      · rw [if_neg (fun z => z h3)]
        by_cases h4 : 0 ≤ r ∧ r ≤ 9
        · rw [if_neg (fun z => z h4)]
          by_cases h5 : r < b
          · exact absurd ⟨h1, h2, h3, h4, h5⟩ h
          · rw [if_neg h5]
        · rw [if_pos h4]
      · rw [if_pos h3]
    · rw [if_pos h2]
  · rw [if_pos h1]
def madds (nw : Nat → Int32) (K : Nat) (a b c r : Int32) : Nat → Int32 := upd (upd (upd (upd (upd (upd nw (5 * K + 1) a) (5 * K + 2) b) (5 * K + 3) c) (5 * K + 4) r) (5 * K + 5) 1) 0 (nI (K + 1))
theorem c6_adds (hK : K ≤ 6) (h0 : nw 0 = nI K) (hd : d ≤ 6) {a b c r : Int32} (h : gkd a b c r) : gEv (gT X) 158 0 [.ref o, .int a, .int b, .int c, .int r, .null] [] n k (mW w o nw rd ps (nI d) im ik tx le pz tk ta va fa se it al ln fz fb be fo fm io) Q ↔ (if K = 6 then Q (some (.int (-3))) n k (mW w o nw rd ps (nI d) im ik tx le pz tk ta va fa se it al ln fz fb be fo fm io) else Q (some (.int (nI K))) n k (mW w o (madds nw K a b c r) rd (mnote nw ps d) (nI (if d = 6 then 6 else d + 1)) im ik tx le pz tk ta va fa se it al ln fz fb be fo fm io)) := by
  obtain ⟨h1, h2, h3, h4, h5⟩ := h
  have v0 : vp_in 0 59 := vp_in_nI (n := 0) (by omega) (by omega)
  have y0 : (0 : Int32).toNatClampNeg = 0 := by decide
  by_cases h6 : K = 6
  · subst h6
    have e : nI 6 = 6 := rfl
    rw [e] at h0
    simp only [eX6_adds_0, eX6_adds_1, eX6_adds_2, eX6_adds_4, eX6_adds_7, eX6_adds_10, eX6_adds_11, eX6_adds_12, eX6_adds_14, eX6_adds_17, eX6_adds_20, eX6_adds_21, eX6_adds_22, eX6_adds_23, eX6_adds_26, eX6_adds_29, eX6_adds_31, eX6_adds_32, eX6_adds_34, eX6_adds_37, eX6_adds_40, eX6_adds_42, eX6_adds_43, eX6_adds_46, eX6_adds_47, eX6_adds_48, eX6_adds_49, eX6_adds_52, eX6_adds_53, eX6_adds_54, eX6_adds_56, eX6_adds_59, eX6_adds_61, Option.toList_some, Option.toList_none, List.cons_append, List.nil_append, gcat_nil, gcat_cons, cat_int, cat_ref, cat_null, cat_ret, cat_long, grc_ref, narZ0, narZ1, true_and, and_true, decide_true, Nat.reduceAdd, Nat.reduceLeDiff, if_true, if_false, eq_self, gfld_in, gobj_in, garr_in, garq_in, glen_in, gisO_in, ex_some, List.getElem?_cons_succ, List.getElem?_cons_zero, List.length_cons, List.length_nil, List.set_cons_succ, List.set_cons_zero, Nat.reduceLT, va_up_eq, va_up_nl, mW_0, mW_1, v0, y0, h0, c6_in, gb_0, h1, h2, h3, h4, h5, not_true_eq_false, not_false_eq_true]
  · rw [if_neg h6]
    have e6 : ¬ nI K = 6 := fun z => h6 ((nI_eq (a := K) (b := 6) (by omega) (by omega)).mp z)
    have v1 : vp_in (nI (5 * K + 1)) 59 := vp_in_nI (by omega) (by omega)
    have v2 : vp_in (nI (5 * K + 1 + 1)) 59 := vp_in_nI (by omega) (by omega)
    have v3 : vp_in (nI (5 * K + 1 + 2)) 59 := vp_in_nI (by omega) (by omega)
    have v4 : vp_in (nI (5 * K + 1 + 3)) 59 := vp_in_nI (by omega) (by omega)
    have v5 : vp_in (nI (5 * K + 1 + 4)) 59 := vp_in_nI (by omega) (by omega)
    have y1 : (nI (5 * K + 1)).toNatClampNeg = 5 * K + 1 := nI_clamp (by omega)
    have y2 : (nI (5 * K + 1 + 1)).toNatClampNeg = 5 * K + 2 := nI_clamp (by omega)
    have y3 : (nI (5 * K + 1 + 2)).toNatClampNeg = 5 * K + 3 := nI_clamp (by omega)
    have y4 : (nI (5 * K + 1 + 3)).toNatClampNeg = 5 * K + 4 := nI_clamp (by omega)
    have y5 : (nI (5 * K + 1 + 4)).toNatClampNeg = 5 * K + 5 := nI_clamp (by omega)
    have z0 : ∀ f : Nat → Int32, upd (upd (upd (upd (upd f (5 * K + 1) a) (5 * K + 2) b) (5 * K + 3) c) (5 * K + 4) r) (5 * K + 5) 1 0 = f 0 := fun f => by
      rw [pk_un (by omega), pk_un (by omega), pk_un (by omega), pk_un (by omega), pk_un (by omega)]
    have e1 : nI (K + 1) - 1 = nI K := nI_pred K
    simp only [eX6_adds_0, eX6_adds_1, eX6_adds_2, eX6_adds_4, eX6_adds_7, eX6_adds_10, eX6_adds_11, eX6_adds_12, eX6_adds_14, eX6_adds_17, eX6_adds_20, eX6_adds_21, eX6_adds_22, eX6_adds_23, eX6_adds_26, eX6_adds_29, eX6_adds_31, eX6_adds_32, eX6_adds_34, eX6_adds_37, eX6_adds_40, eX6_adds_42, eX6_adds_43, eX6_adds_46, eX6_adds_47, eX6_adds_48, eX6_adds_49, eX6_adds_52, eX6_adds_53, eX6_adds_54, eX6_adds_56, eX6_adds_59, eX6_adds_61, eX6_adds_62, eX6_adds_63, eX6_adds_66, eX6_adds_67, eX6_adds_68, eX6_adds_69, eX6_adds_72, eX6_adds_73, eX6_adds_74, eX6_adds_75, eX6_adds_76, eX6_adds_76b, eX6_adds_76c, eX6_adds_76d, eX6_adds_78, eX6_adds_79, eX6_adds_82, eX6_adds_84, eX6_adds_85, eX6_adds_86, eX6_adds_87, eX6_adds_90, eX6_adds_92, eX6_adds_93, eX6_adds_94, eX6_adds_95, eX6_adds_96, eX6_adds_97, eX6_adds_100, eX6_adds_102, eX6_adds_103, eX6_adds_104, eX6_adds_105, eX6_adds_106, eX6_adds_107, eX6_adds_110, eX6_adds_112, eX6_adds_113, eX6_adds_114, eX6_adds_116, eX6_adds_117, eX6_adds_118, eX6_adds_121, eX6_adds_123, eX6_adds_124, eX6_adds_125, eX6_adds_126, eX6_adds_127, eX6_adds_128, eX6_adds_131, eX6_adds_132, eX6_adds_133, eX6_adds_134, eX6_adds_135, eX6_adds_136, eX6_adds_137, eX6_adds_138, eX6_adds_141, eX6_adds_142, eX6_adds_143, eX6_adds_144, eX6_adds_145, Option.toList_some, Option.toList_none, List.cons_append, List.nil_append, gcat_nil, gcat_cons, cat_int, cat_ref, cat_null, cat_ret, cat_long, grc_ref, narZ0, narZ1, true_and, and_true, decide_true, Nat.reduceAdd, Nat.reduceLeDiff, if_true, if_false, eq_self, gfld_in, gobj_in, garr_in, garq_in, glen_in, gisO_in, ex_some, List.getElem?_cons_succ, List.getElem?_cons_zero, List.length_cons, List.length_nil, List.set_cons_succ, List.set_cons_zero, Nat.reduceLT, va_up_eq, va_up_nl, mW_0, mW_1, v0, y0, h0, c6_in, gb_0, h1, h2, h3, h4, h5, e6, not_true_eq_false, not_false_eq_true, c6_note hd, m5, nI_1, nIp2, nIp3, nIp4, v1, v2, v3, v4, v5, y1, y2, y3, y4, y5, mW_p1, z0, pk_us, e1]
    rfl
theorem c6_undo (hd : d ≤ 6) : gEv (gT X) 159 0 [.ref o] [] n k (mW w o nw rd ps (nI d) im ik tx le pz tk ta va fa se it al ln fz fb be fo fm io) Q ↔ (if d = 0 then Q (some (.int (-2))) n k (mW w o nw rd ps (nI d) im ik tx le pz tk ta va fa se it al ln fz fb be fo fm io) else Q (some (.int (nI (d - 1)))) n k (mW w o (mrng 0 59 (fun z => ps (59 * (d - 1) + z)) nw) rd ps (nI (d - 1)) im ik tx le pz tk ta va fa se it al ln fz fb be fo fm io)) := by
  by_cases h : d = 0
  · subst h
    have e : nI 0 = 0 := rfl
    simp only [eX6_undo_0, eX6_undo_1, eX6_undo_4, eX6_undo_7, eX6_undo_9, eX6_undo_10, eX6_undo_11, eX6_undo_11b, eX6_undo_12, eX6_undo_15, eX6_undo_16, eX6_undo_17, eX6_undo_20, eX6_undo_21, eX6_undo_24, eX6_undo_26, eX6_undo_27, eX6_undo_30, eX6_undo_31, eX6_undo_32, eX6_undo_35, eX6_undo_36, eX6_undo_39, eX6_undo_40, eX6_undo_43, Option.toList_some, Option.toList_none, List.cons_append, List.nil_append, gcat_nil, gcat_cons, cat_int, cat_ref, cat_null, cat_ret, cat_long, grc_ref, narZ0, narZ1, true_and, and_true, decide_true, Nat.reduceAdd, Nat.reduceLeDiff, if_true, if_false, eq_self, gfld_in, gobj_in, garr_in, garq_in, glen_in, gisO_in, ex_some, List.getElem?_cons_succ, List.getElem?_cons_zero, List.length_cons, List.length_nil, List.set_cons_succ, List.set_cons_zero, Nat.reduceLT, va_up_eq, va_up_nl, mW_0, e, not_true_eq_false]
  · rw [if_neg h]
    have e0 : ¬ nI d = 0 := nI_ne0 (by omega) (by omega)
    have e1 : nI d - 1 = nI (d - 1) := by
      rw [show d = d - 1 + 1 by omega, nI_pred]
      rfl
    have e2 : 59 * nI (d - 1) = nI (59 * (d - 1)) := by rw [show (59 : Int32) = nI 59 from rfl, pk_mul]
    have hb : ∀ {Q : Option Value → Nat → Nat → gH → Prop}, gEv (gT X) 119 0 [.ref (o + 3), .int (nI (59 * (d - 1))), .ref (o + 1), .int 0, .null] [] n k (mW w o nw rd ps (nI (d - 1)) im ik tx le pz tk ta va fa se it al ln fz fb be fo fm io) Q ↔ Q none n k (va_up (mW w o nw rd ps (nI (d - 1)) im ik tx le pz tk ta va fa se it al ln fz fb be fo fm io) (o + 1) (.inl (.int, 59, .inl (mrng 0 (0 + 59) (fun z => ps (59 * (d - 1) + (z - 0))) nw)))) := c6_bring (i := 59 * (d - 1)) (j := 0) mW_3 mW_1 (by omega) (by omega) (by omega) (by omega) (by omega)
    simp only [eX6_undo_0, eX6_undo_1, eX6_undo_4, eX6_undo_7, eX6_undo_9, eX6_undo_10, eX6_undo_11, eX6_undo_11b, eX6_undo_12, eX6_undo_15, eX6_undo_16, eX6_undo_17, eX6_undo_20, eX6_undo_21, eX6_undo_24, eX6_undo_26, eX6_undo_27, eX6_undo_30, eX6_undo_31, eX6_undo_32, eX6_undo_35, eX6_undo_36, eX6_undo_39, eX6_undo_40, eX6_undo_43, Option.toList_some, Option.toList_none, List.cons_append, List.nil_append, gcat_nil, gcat_cons, cat_int, cat_ref, cat_null, cat_ret, cat_long, grc_ref, narZ0, narZ1, true_and, and_true, decide_true, Nat.reduceAdd, Nat.reduceLeDiff, if_true, if_false, eq_self, gfld_in, gobj_in, garr_in, garq_in, glen_in, gisO_in, ex_some, List.getElem?_cons_succ, List.getElem?_cons_zero, List.length_cons, List.length_nil, List.set_cons_succ, List.set_cons_zero, Nat.reduceLT, va_up_eq, va_up_nl, mW_0, e0, not_false_eq_true, e1, e2, mW_p0, hb, mW_p1]
    rfl
theorem c6_keep_bad {a : Int32} (h : ¬ (0 ≤ a ∧ a ≤ 1)) : gEv (gT X) 181 0 [.ref o, .int a] [] n k (mW w o nw rd ps de im ik tx le pz tk ta va fa se it al ln fz fb be fo fm io) Q ↔ Q (some (.int (-1))) n k (mW w o nw rd ps de im ik tx le pz tk ta va fa se it al ln fz fb be fo fm io) := by
  simp only [eX6_keep_0, eX6_keep_1, eX6_keep_2, eX6_keep_3, eX6_keep_6, eX6_keep_9, eX6_keep_10, Option.toList_some, Option.toList_none, List.cons_append, List.nil_append, gcat_nil, gcat_cons, cat_int, cat_ref, cat_null, cat_ret, cat_long, grc_ref, narZ0, narZ1, true_and, and_true, decide_true, Nat.reduceAdd, Nat.reduceLeDiff, if_true, if_false, eq_self, gfld_in, gobj_in, garr_in, garq_in, glen_in, gisO_in, ex_some, List.getElem?_cons_succ, List.getElem?_cons_zero, List.length_cons, List.length_nil, List.set_cons_succ, List.set_cons_zero, Nat.reduceLT, va_up_eq, va_up_nl, c6_in, gb_0, h, not_true_eq_false, not_false_eq_true]
theorem c6_keep {i : Nat} (hi : i < 2) : gEv (gT X) 181 0 [.ref o, .int (nI i)] [] n k (mW w o nw rd ps de im ik tx le pz tk ta va fa se it al ln fz fb be fo fm io) Q ↔ Q (some (.int (nw 31))) n k (mW w o nw rd ps de (mrng (59 * i) (59 * i + 59) (fun z => nw (0 + (z - 59 * i))) im) (upd ik i 1) tx le pz tk ta va fa se it al ln fz fb be fo fm io) := by
  have h1 : 0 ≤ nI i ∧ nI i ≤ 1 := ⟨nI_pos' (by omega), nI_le (b := 1) (by omega) (by omega)⟩
  have v0 : vp_in 31 59 := vp_in_nI (n := 31) (by omega) (by omega)
  have y0 : (31 : Int32).toNatClampNeg = 31 := by decide
  have v1 : vp_in (nI i) 2 := vp_in_nI (by omega) (by omega)
  have e2 : 59 * nI i = nI (59 * i) := by rw [show (59 : Int32) = nI 59 from rfl, pk_mul]
  have e3 : vp_nar .boolean 1 = 1 := by decide
  have hb : ∀ {Q : Option Value → Nat → Nat → gH → Prop}, gEv (gT X) 119 0 [.ref (o + 1), .int 0, .ref (o + 4), .int (nI (59 * i)), .null] [] n k (mW w o nw rd ps de im ik tx le pz tk ta va fa se it al ln fz fb be fo fm io) Q ↔ Q none n k (va_up (mW w o nw rd ps de im ik tx le pz tk ta va fa se it al ln fz fb be fo fm io) (o + 4) (.inl (.int, 118, .inl (mrng (59 * i) (59 * i + 59) (fun z => nw (0 + (z - 59 * i))) im)))) := c6_bring (i := 0) (j := 59 * i) mW_1 mW_4 (by omega) (by omega) (by omega) (by omega) (by omega)
  simp only [eX6_keep_0, eX6_keep_1, eX6_keep_2, eX6_keep_3, eX6_keep_6, eX6_keep_9, eX6_keep_10, eX6_keep_11, eX6_keep_12, eX6_keep_15, eX6_keep_16, eX6_keep_17, eX6_keep_20, eX6_keep_22, eX6_keep_23, eX6_keep_24, eX6_keep_27, eX6_keep_28, eX6_keep_31, eX6_keep_32, eX6_keep_33, eX6_keep_34, eX6_keep_35, eX6_keep_38, eX6_keep_40, eX6_keep_41, Option.toList_some, Option.toList_none, List.cons_append, List.nil_append, gcat_nil, gcat_cons, cat_int, cat_ref, cat_null, cat_ret, cat_long, grc_ref, narZ0, narZ1, true_and, and_true, decide_true, Nat.reduceAdd, Nat.reduceLeDiff, if_true, if_false, eq_self, gfld_in, gobj_in, garr_in, garq_in, glen_in, gisO_in, ex_some, List.getElem?_cons_succ, List.getElem?_cons_zero, List.length_cons, List.length_nil, List.set_cons_succ, List.set_cons_zero, Nat.reduceLT, va_up_eq, va_up_nl, mW_0, mW_1, mW_5, c6_in, gb_0, h1, not_true_eq_false, not_false_eq_true, e2, hb, mW_p4, v0, y0, v1, nI_clamp (show i < 2 ^ 31 by omega), e3, mW_p5]
theorem c6_back_bad {a : Int32} (h : ¬ (0 ≤ a ∧ a ≤ 1)) : gEv (gT X) 182 0 [.ref o, .int a] [] n k (mW w o nw rd ps de im ik tx le pz tk ta va fa se it al ln fz fb be fo fm io) Q ↔ Q (some (.int (-1))) n k (mW w o nw rd ps de im ik tx le pz tk ta va fa se it al ln fz fb be fo fm io) := by
  simp only [eX6_back_0, eX6_back_1, eX6_back_2, eX6_back_3, eX6_back_6, eX6_back_9, eX6_back_10, Option.toList_some, Option.toList_none, List.cons_append, List.nil_append, gcat_nil, gcat_cons, cat_int, cat_ref, cat_null, cat_ret, cat_long, grc_ref, narZ0, narZ1, true_and, and_true, decide_true, Nat.reduceAdd, Nat.reduceLeDiff, if_true, if_false, eq_self, gfld_in, gobj_in, garr_in, garq_in, glen_in, gisO_in, ex_some, List.getElem?_cons_succ, List.getElem?_cons_zero, List.length_cons, List.length_nil, List.set_cons_succ, List.set_cons_zero, Nat.reduceLT, va_up_eq, va_up_nl, c6_in, gb_0, h, not_true_eq_false, not_false_eq_true]
theorem c6_back {i : Nat} (hi : i < 2) : gEv (gT X) 182 0 [.ref o, .int (nI i)] [] n k (mW w o nw rd ps de im ik tx le pz tk ta va fa se it al ln fz fb be fo fm io) Q ↔ (if ik i = 0 then Q (some (.int (-2))) n k (mW w o nw rd ps de im ik tx le pz tk ta va fa se it al ln fz fb be fo fm io) else Q (some (.int (im (59 * i + 31)))) n k (mW w o (mrng 0 59 (fun z => im (59 * i + z)) nw) rd ps 0 im ik tx le pz tk ta va fa se it al ln fz fb be fo fm io)) := by
  have h1 : 0 ≤ nI i ∧ nI i ≤ 1 := ⟨nI_pos' (by omega), nI_le (b := 1) (by omega) (by omega)⟩
  have v0 : vp_in 31 59 := vp_in_nI (n := 31) (by omega) (by omega)
  have y0 : (31 : Int32).toNatClampNeg = 31 := by decide
  have v1 : vp_in (nI i) 2 := vp_in_nI (by omega) (by omega)
  have e2 : 59 * nI i = nI (59 * i) := by rw [show (59 : Int32) = nI 59 from rfl, pk_mul]
  have hb : ∀ {Q : Option Value → Nat → Nat → gH → Prop}, gEv (gT X) 119 0 [.ref (o + 4), .int (nI (59 * i)), .ref (o + 1), .int 0, .null] [] n k (mW w o nw rd ps de im ik tx le pz tk ta va fa se it al ln fz fb be fo fm io) Q ↔ Q none n k (va_up (mW w o nw rd ps de im ik tx le pz tk ta va fa se it al ln fz fb be fo fm io) (o + 1) (.inl (.int, 59, .inl (mrng 0 (0 + 59) (fun z => im (59 * i + (z - 0))) nw)))) := c6_bring (i := 59 * i) (j := 0) mW_4 mW_1 (by omega) (by omega) (by omega) (by omega) (by omega)
  have z : mrng 0 (0 + 59) (fun z => im (59 * i + (z - 0))) nw 31 = im (59 * i + 31) := mrng_in (by omega) (by omega)
  by_cases h : ik i = 0
  · rw [if_pos h]
    simp only [eX6_back_0, eX6_back_1, eX6_back_2, eX6_back_3, eX6_back_6, eX6_back_9, eX6_back_10, eX6_back_11, eX6_back_12, eX6_back_15, eX6_back_16, eX6_back_17, eX6_back_20, eX6_back_22, Option.toList_some, Option.toList_none, List.cons_append, List.nil_append, gcat_nil, gcat_cons, cat_int, cat_ref, cat_null, cat_ret, cat_long, grc_ref, narZ0, narZ1, true_and, and_true, decide_true, Nat.reduceAdd, Nat.reduceLeDiff, if_true, if_false, eq_self, gfld_in, gobj_in, garr_in, garq_in, glen_in, gisO_in, ex_some, List.getElem?_cons_succ, List.getElem?_cons_zero, List.length_cons, List.length_nil, List.set_cons_succ, List.set_cons_zero, Nat.reduceLT, va_up_eq, va_up_nl, mW_0, mW_5, c6_in, gb_0, h1, v1, nI_clamp (show i < 2 ^ 31 by omega), h, not_true_eq_false, not_false_eq_true]
  · rw [if_neg h]
    simp only [eX6_back_0, eX6_back_1, eX6_back_2, eX6_back_3, eX6_back_6, eX6_back_9, eX6_back_10, eX6_back_11, eX6_back_12, eX6_back_15, eX6_back_16, eX6_back_17, eX6_back_20, eX6_back_22, eX6_back_23, eX6_back_24, eX6_back_27, eX6_back_29, eX6_back_30, eX6_back_31, eX6_back_32, eX6_back_35, eX6_back_36, eX6_back_39, eX6_back_40, eX6_back_41, eX6_back_44, eX6_back_45, eX6_back_48, eX6_back_50, eX6_back_51, Option.toList_some, Option.toList_none, List.cons_append, List.nil_append, gcat_nil, gcat_cons, cat_int, cat_ref, cat_null, cat_ret, cat_long, grc_ref, narZ0, narZ1, true_and, and_true, decide_true, Nat.reduceAdd, Nat.reduceLeDiff, if_true, if_false, eq_self, gfld_in, gobj_in, garr_in, garq_in, glen_in, gisO_in, ex_some, List.getElem?_cons_succ, List.getElem?_cons_zero, List.length_cons, List.length_nil, List.set_cons_succ, List.set_cons_zero, Nat.reduceLT, va_up_eq, va_up_nl, mW_0, mW_1, mW_5, c6_in, gb_0, h1, v1, nI_clamp (show i < 2 ^ 31 by omega), h, not_true_eq_false, not_false_eq_true, e2, hb, mW_p1, mW_p0, v0, y0, z]
    rfl
/-- what may be seen -/
def gsn (a x b : Int32) : Prop := (0 ≤ a ∧ a ≤ 5) ∧ (0 ≤ x ∧ x ≤ 9) ∧ (0 ≤ b ∧ b ≤ 6)
theorem c6_sees_bad {a x b : Int32} (h : ¬ gsn a x b) : gEv (gT X) 172 0 [.ref o, .int a, .int x, .int b] [] n k (mW w o nw rd ps de im ik tx le pz tk ta va fa se it al ln fz fb be fo fm io) Q ↔ Q (some (.int (-1))) n k (mW w o nw rd ps de im ik tx le pz tk ta va fa se it al ln fz fb be fo fm io) := by
  simp only [eX6_sees_0, eX6_sees_1, eX6_sees_2, eX6_sees_3, eX6_sees_6, eX6_sees_9, eX6_sees_10, eX6_sees_11, eX6_sees_13, eX6_sees_16, eX6_sees_19, eX6_sees_20, eX6_sees_21, eX6_sees_23, eX6_sees_26, eX6_sees_29, eX6_sees_30, Option.toList_some, Option.toList_none, List.cons_append, List.nil_append, gcat_nil, gcat_cons, cat_int, cat_ref, cat_null, cat_ret, cat_long, grc_ref, narZ0, narZ1, true_and, and_true, decide_true, Nat.reduceAdd, Nat.reduceLeDiff, if_true, if_false, eq_self, gfld_in, gobj_in, garr_in, garq_in, glen_in, gisO_in, ex_some, List.getElem?_cons_succ, List.getElem?_cons_zero, List.length_cons, List.length_nil, List.set_cons_succ, List.set_cons_zero, Nat.reduceLT, va_up_eq, va_up_nl, c6_in, gb_0]
  by_cases h1 : 0 ≤ a ∧ a ≤ 5
  · rw [if_neg (fun z => z h1)]
    by_cases h2 : 0 ≤ x ∧ x ≤ 9
    · rw [if_neg (fun z => z h2)]
      by_cases h3 : 0 ≤ b ∧ b ≤ 6
      · exact absurd ⟨h1, h2, h3⟩ h
      · rw [if_neg (fun z => z h3)]
    · rw [if_pos h2]
  · rw [if_pos h1]
theorem c6_sees {s : Nat} (hs : s ≤ 6) {a x b : Int32} (h : gsn a x b) : gEv (gT X) 172 0 [.ref o, .int a, .int x, .int b] [] n k (mW w o nw rd ps de im ik tx le pz tk ta va fa (nI s) it al ln fz fb be fo fm io) Q ↔ (if s = 6 then Q (some (.int (-3))) n k (mW w o nw rd ps de im ik tx le pz tk ta va fa (nI s) it al ln fz fb be fo fm io) else Q (some (.int (nI (s + 1)))) n k (mW w o nw rd ps de im ik tx le pz tk ta va (upd (upd (upd fa (3 * s) a) (3 * s + 1) x) (3 * s + 2) b) (nI (s + 1)) it al ln fz fb be fo fm io)) := by
  obtain ⟨h1, h2, h3⟩ := h
  by_cases h6 : s = 6
  · subst h6
    have e : nI 6 = 6 := rfl
    simp only [eX6_sees_0, eX6_sees_1, eX6_sees_2, eX6_sees_3, eX6_sees_6, eX6_sees_9, eX6_sees_10, eX6_sees_11, eX6_sees_13, eX6_sees_16, eX6_sees_19, eX6_sees_20, eX6_sees_21, eX6_sees_23, eX6_sees_26, eX6_sees_29, eX6_sees_30, eX6_sees_31, eX6_sees_32, eX6_sees_35, eX6_sees_37, eX6_sees_40, eX6_sees_42, Option.toList_some, Option.toList_none, List.cons_append, List.nil_append, gcat_nil, gcat_cons, cat_int, cat_ref, cat_null, cat_ret, cat_long, grc_ref, narZ0, narZ1, true_and, and_true, decide_true, Nat.reduceAdd, Nat.reduceLeDiff, if_true, if_false, eq_self, gfld_in, gobj_in, garr_in, garq_in, glen_in, gisO_in, ex_some, List.getElem?_cons_succ, List.getElem?_cons_zero, List.length_cons, List.length_nil, List.set_cons_succ, List.set_cons_zero, Nat.reduceLT, va_up_eq, va_up_nl, mW_0, c6_in, gb_0, h1, h2, h3, e, not_true_eq_false, not_false_eq_true]
  · rw [if_neg h6]
    have e6 : ¬ nI s = 6 := fun z => h6 ((nI_eq (a := s) (b := 6) (by omega) (by omega)).mp z)
    have e3 : 3 * nI s = nI (3 * s) := by rw [show (3 : Int32) = nI 3 from rfl, pk_mul]
    have v1 : vp_in (nI (3 * s)) 18 := vp_in_nI (by omega) (by omega)
    have v2 : vp_in (nI (3 * s + 1)) 18 := vp_in_nI (by omega) (by omega)
    have v3 : vp_in (nI (3 * s + 2)) 18 := vp_in_nI (by omega) (by omega)
    simp only [eX6_sees_0, eX6_sees_1, eX6_sees_2, eX6_sees_3, eX6_sees_6, eX6_sees_9, eX6_sees_10, eX6_sees_11, eX6_sees_13, eX6_sees_16, eX6_sees_19, eX6_sees_20, eX6_sees_21, eX6_sees_23, eX6_sees_26, eX6_sees_29, eX6_sees_30, eX6_sees_31, eX6_sees_32, eX6_sees_35, eX6_sees_37, eX6_sees_40, eX6_sees_42, eX6_sees_43, eX6_sees_44, eX6_sees_47, eX6_sees_48, eX6_sees_49, eX6_sees_52, eX6_sees_53, eX6_sees_54, eX6_sees_55, eX6_sees_56, eX6_sees_59, eX6_sees_60, eX6_sees_61, eX6_sees_64, eX6_sees_65, eX6_sees_66, eX6_sees_67, eX6_sees_68, eX6_sees_69, eX6_sees_70, eX6_sees_73, eX6_sees_74, eX6_sees_75, eX6_sees_78, eX6_sees_79, eX6_sees_80, eX6_sees_81, eX6_sees_82, eX6_sees_83, eX6_sees_84, eX6_sees_84b, eX6_sees_85, eX6_sees_88, eX6_sees_89, eX6_sees_90, eX6_sees_93, eX6_sees_94, eX6_sees_97, Option.toList_some, Option.toList_none, List.cons_append, List.nil_append, gcat_nil, gcat_cons, cat_int, cat_ref, cat_null, cat_ret, cat_long, grc_ref, narZ0, narZ1, true_and, and_true, decide_true, Nat.reduceAdd, Nat.reduceLeDiff, if_true, if_false, eq_self, gfld_in, gobj_in, garr_in, garq_in, glen_in, gisO_in, ex_some, List.getElem?_cons_succ, List.getElem?_cons_zero, List.length_cons, List.length_nil, List.set_cons_succ, List.set_cons_zero, Nat.reduceLT, va_up_eq, va_up_nl, mW_0, mW_7, c6_in, gb_0, h1, h2, h3, e6, not_true_eq_false, not_false_eq_true, e3, nI_1, nIp2, v1, v2, v3, nI_clamp (show 3 * s < 2 ^ 31 by omega), nI_clamp (show 3 * s + 1 < 2 ^ 31 by omega), nI_clamp (show 3 * s + 2 < 2 ^ 31 by omega), mW_p7, mW_p0]
end MB2
