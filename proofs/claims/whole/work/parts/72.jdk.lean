/-! THE TEXTS OF THE CLASS -/
theorem grc_txt {w : gH} {j : Nat} {l : List Value} (hj : j < 5) : grc w 1000 (.retAddr (j + 1) :: l) = true := by
  simp only [grc]
  simp
  omega
/-- the letter i of the text j -/
def gch (j i : Nat) : Int32 := (gbyt.getD j []).getD i 0
theorem gch_ok : ∀ j, j < 5 → ∀ i, i < glens.getD j 0 → ((gch j i &&& 255).toUInt32 % 65536).toInt32 = gch j i ∧ (gch j i).toUInt32.toUInt16.toUInt32.toInt32 = gch j i := by decide +kernel
theorem glens_le : ∀ j, j < 5 → glens.getD j 0 < 6 := by decide
theorem narB0 : (narrow .byte (.int 0) = .int 0) = True := by
  simp only [narrow]
  decide
section JD
variable {X : gX} {n k : Nat} {w : gH} {Q : Option Value → Nat → Nat → gH → Prop} {j : Nat}
theorem cJ_length (hj : j < 5) : gEv (gT X) 0 0 [.retAddr (j + 1)] [] n k w Q ↔ Q (some (.int (nI (glens.getD j 0)))) n k w := by
  have h20 : j + 1 ≤ 20 := by omega
  have h10 : ¬ (1 : Int32) = 0 := by decide
  have e0 : ∀ x : Int32, x >>> ((0 : Int32) &&& 31) = x := fun x => by
    have : (0 : Int32) &&& 31 = 0 := by decide
    rw [this]
    exact Int32.shiftRight_zero
  simp only [eJ0_length_8abf5_0 h20, eJ0_length_8abf5_1 hj, eJ0_length_8abf5_4 hj, eJ0_length_8abf5_5 h20, eJ0_length_8abf5_6, grc_txt hj, eJ0_coder_7d493_0, eJ0_coder_7d493_3, eJ0_coder_7d493_6 h20, eJ0_coder_7d493_7 hj, eJ0_coder_7d493_10, eJ0_coder_7d493_14, eJ0_length_8abf5_9, eJ0_length_8abf5_10, Option.toList_some, Option.toList_none, List.cons_append, List.nil_append, gcat_nil, gcat_cons, cat_int, cat_ref, cat_null, cat_ret, cat_long, grc_ref, narZ0, narZ1, true_and, and_true, decide_true, Nat.reduceAdd, Nat.reduceLeDiff, if_true, if_false, eq_self, gfld_in, gobj_in, garr_in, garq_in, glen_in, gisO_in, ex_some, List.getElem?_cons_succ, List.getElem?_cons_zero, List.length_cons, List.length_nil, List.set_cons_succ, List.set_cons_zero, Nat.reduceLT, va_up_eq, va_up_nl, h10, narB0, e0]
  rfl
theorem cJ_charAt (hj : j < 5) {i : Nat} (hi : i < glens.getD j 0) : gEv (gT X) 1 0 [.retAddr (j + 1), .int (nI i)] [] n k w Q ↔ Q (some (.int (gch j i))) n k w := by
  have h20 : j + 1 ≤ 20 := by omega
  have h31 : j + 11 ≤ 20 := by omega
  have h10 : ¬ (1 : Int32) = 0 := by decide
  have hl := glens_le j hj
  have hv : vp_in (nI i) (glens.getD j 0) := vp_in_nI hi (by omega)
  have c1 : ¬ nI i < 0 := nI_pos (by omega)
  have c2 : nI i < Int32.ofNat (glens.getD j 0) := nI_lt hi (by omega)
  obtain ⟨g1, g2⟩ := gch_ok j hj i hi
  have eg : (gbyt.getD j []).getD (nI i).toNatClampNeg 0 = gch j i := by rw [nI_clamp (by omega)]; rfl
  have gn : (narrow .char (.int (gch j i)) = .int (gch j i)) = True := by
    simp only [narrow, g2]
  simp only [eJ0_charAt_5068e_0 h20, eJ0_charAt_5068e_1, grc_txt hj, eJ0_isLatin1_aae02_0, eJ0_isLatin1_aae02_3, eJ0_isLatin1_aae02_6 h20, eJ0_isLatin1_aae02_7 hj, eJ0_isLatin1_aae02_10, eJ0_isLatin1_aae02_13, eJ0_isLatin1_aae02_14, eJ0_isLatin1_aae02_18, eJ0_charAt_5068e_4, eJ0_charAt_5068e_7 h20, eJ0_charAt_5068e_8 hj, eJ0_charAt_5068e_11, eJ0_charAt_5068e_12, eJ1_charAt_3b067_0, eJ1_charAt_3b067_1 h31, eJ1_charAt_3b067_2 hj, eJ1_charAt_3b067_3, eJ0_checkIndex_df160_0, eJ0_checkIndex_df160_1, eJ0_checkIndex_df160_2, eJ0_checkIndex_df160_5, eJ0_checkIndex_df160_8, eJ0_checkIndex_df160_9, eJ3_checkIndex_8e157_0, eJ3_checkIndex_8e157_1, eJ3_checkIndex_8e157_4, eJ3_checkIndex_8e157_5, eJ3_checkIndex_8e157_6, eJ3_checkIndex_8e157_16, eJ3_checkIndex_8e157_17, eJ1_charAt_3b067_6 h31, eJ1_charAt_3b067_7, eJ1_charAt_3b067_8 hj hv, eJ1_charAt_3b067_9, eJ1_charAt_3b067_12, eJ1_charAt_3b067_13, eJ1_charAt_3b067_14, eJ0_charAt_5068e_15, Option.toList_some, Option.toList_none, List.cons_append, List.nil_append, gcat_nil, gcat_cons, cat_int, cat_ref, cat_null, cat_ret, cat_long, grc_ref, narZ0, narZ1, true_and, and_true, decide_true, Nat.reduceAdd, Nat.reduceLeDiff, if_true, if_false, eq_self, gfld_in, gobj_in, garr_in, garq_in, glen_in, gisO_in, ex_some, List.getElem?_cons_succ, List.getElem?_cons_zero, List.length_cons, List.length_nil, List.set_cons_succ, List.set_cons_zero, Nat.reduceLT, va_up_eq, va_up_nl, h10, not_true_eq_false, c1, c2, eg, g1, gn]
end JD
/-! THE TELLER: its cells -/
def tW (w : gH) (lt nb : Nat → Int32) (tl tt st en : Int32) : gH := fun a => if a = 8 then (.inr (2, [.ref 9, .ref 10, .ref 11, .int (tl), .int (tt), .int (st), .int (en)]) : gE) else if a = 9 then (.inl (.int, 150, .inl (lt)) : gE) else if a = 10 then (.inl (.int, 5, .inl (nb)) : gE) else w a
section TB
variable {w : gH} {lt nb : Nat → Int32} {tl tt st en : Int32}
theorem tW_8 : tW w lt nb tl tt st en 8 = (.inr (2, [.ref 9, .ref 10, .ref 11, .int (tl), .int (tt), .int (st), .int (en)]) : gE) := rfl
theorem tW_9 : tW w lt nb tl tt st en 9 = (.inl (.int, 150, .inl (lt)) : gE) := rfl
theorem tW_10 : tW w lt nb tl tt st en 10 = (.inl (.int, 5, .inl (nb)) : gE) := rfl
theorem tW_ne {a : Nat} (h : a < 8 ∨ 10 < a) : tW w lt nb tl tt st en a = w a := by
  unfold tW
  rw [if_neg (by omega), if_neg (by omega), if_neg (by omega)]
theorem tW_p8 {a b c d : Int32} : va_up (tW w lt nb tl tt st en) 8 (.inr (2, [.ref 9, .ref 10, .ref 11, .int (a), .int (b), .int (c), .int (d)]) : gE) = tW w lt nb a b c d := by
  funext z
  unfold tW va_up
  by_cases h : z = 8 <;> simp [h]
theorem tW_p9 {f : Nat → Int32} : va_up (tW w lt nb tl tt st en) 9 (.inl (.int, 150, .inl (f)) : gE) = tW w f nb tl tt st en := by
  funext z
  unfold tW va_up
  by_cases h : z = 9 <;> simp [h]
theorem tW_p10 {f : Nat → Int32} : va_up (tW w lt nb tl tt st en) 10 (.inl (.int, 5, .inl (f)) : gE) = tW w lt f tl tt st en := by
  funext z
  unfold tW va_up
  by_cases h : z = 10 <;> simp [h]
theorem tW_sTr {kr ts co : Nat → Int32} {kc tc rm jm : Int32} : tW (sTr w 11 kr ts co kc tc rm jm) lt nb tl tt st en = sTr (tW w lt nb tl tt st en) 11 kr ts co kc tc rm jm := by
  funext z
  by_cases h : z < 8 ∨ 10 < z
  · rw [tW_ne h]
    by_cases h2 : z < 11 ∨ 11 + 3 < z
    · rw [sTr_ne h2, sTr_ne h2, tW_ne h]
    · unfold sTr
      have : z = 11 ∨ z = 12 ∨ z = 13 ∨ z = 14 := by omega
      rcases this with rfl | rfl | rfl | rfl <;> simp
  · rw [sTr_ne (by omega)]
    have : z = 8 ∨ z = 9 ∨ z = 10 := by omega
    rcases this with rfl | rfl | rfl <;> rfl
theorem tW_self (h8 : w 8 = (.inr (2, [.ref 9, .ref 10, .ref 11, .int (tl), .int (tt), .int (st), .int (en)]) : gE)) (h9 : w 9 = (.inl (.int, 150, .inl (lt)) : gE)) (h10 : w 10 = (.inl (.int, 5, .inl (nb)) : gE)) : tW w lt nb tl tt st en = w := by
  funext z
  unfold tW
  by_cases q : z = 8
  · rw [if_pos q, q, h8]
  · rw [if_neg q]
    by_cases q2 : z = 9
    · rw [if_pos q2, q2, h9]
    · rw [if_neg q2]
      by_cases q3 : z = 10
      · rw [if_pos q3, q3, h10]
      · rw [if_neg q3]
end TB
section TC
variable {X : gX} {n k : Nat} {w : gH} {Q : Option Value → Nat → Nat → gH → Prop} {lt nb : Nat → Int32} {tl tt st en : Int32} {l : Nat} {tv : Nat → Nat}
theorem c_append (hl : l ≤ 150) {a : Int32} : gEv (gT X) 27 0 [.ref 8, .int a] [] n k (tW w lt nb (nI l) tt st en) Q ↔ (if l = 150 then Q (some (.int 0)) n k (tW w lt nb (nI l) tt st en) else Q (some (.int 1)) n k (tW w (upd lt l a) nb (nI (l + 1)) tt st en)) := by
  by_cases q : l = 150
  · have hc : ¬ nI l < Int32.ofNat 150 := nI_nlt (a := l) (b := 150) (by omega) (by omega)
    rw [if_pos q]
    simp only [eX2_append_0, eX2_append_1, eX2_append_4, eX2_append_5, eX2_append_8, eX2_append_9, eX2_append_12, eX2_append_13, eX2_append_14, eX2_append_15, eX2_append_18, eX2_append_19, eX2_append_22, eX2_append_23, eX2_append_24, eX2_append_25, eX2_append_25b, eX2_append_26, eX2_append_29, eX2_append_30, eX2_append_31, eX2_append_34, eX2_append_35, Option.toList_some, Option.toList_none, List.cons_append, List.nil_append, gcat_nil, gcat_cons, cat_int, cat_ref, cat_null, cat_ret, cat_long, grc_ref, narZ0, narZ1, true_and, and_true, decide_true, Nat.reduceAdd, Nat.reduceLeDiff, if_true, if_false, eq_self, gfld_in, gobj_in, garr_in, garq_in, glen_in, gisO_in, ex_some, List.getElem?_cons_succ, List.getElem?_cons_zero, List.length_cons, List.length_nil, List.set_cons_succ, List.set_cons_zero, Nat.reduceLT, va_up_eq, va_up_nl, tW_8, tW_9, hc]
  · have hc : nI l < Int32.ofNat 150 := nI_lt (a := l) (b := 150) (by omega) (by omega)
    have v : vp_in (nI l) 150 := vp_in_nI (by omega) (by omega)
    rw [if_neg q]
    simp only [eX2_append_0, eX2_append_1, eX2_append_4, eX2_append_5, eX2_append_8, eX2_append_9, eX2_append_12, eX2_append_13, eX2_append_14, eX2_append_15, eX2_append_18, eX2_append_19, eX2_append_22, eX2_append_23, eX2_append_24, eX2_append_25, eX2_append_25b, eX2_append_26, eX2_append_29, eX2_append_30, eX2_append_31, eX2_append_34, eX2_append_35, Option.toList_some, Option.toList_none, List.cons_append, List.nil_append, gcat_nil, gcat_cons, cat_int, cat_ref, cat_null, cat_ret, cat_long, grc_ref, narZ0, narZ1, true_and, and_true, decide_true, Nat.reduceAdd, Nat.reduceLeDiff, if_true, if_false, eq_self, gfld_in, gobj_in, garr_in, garq_in, glen_in, gisO_in, ex_some, List.getElem?_cons_succ, List.getElem?_cons_zero, List.length_cons, List.length_nil, List.set_cons_succ, List.set_cons_zero, Nat.reduceLT, va_up_eq, va_up_nl, tW_8, tW_9, hc, v, nI_clamp (show l < 2 ^ 31 by omega), tW_p9, tW_p8, nI_1]
theorem c_letterAt (ht : gtx lt tv l) {j : Nat} (hj : j < 1000) : gEv (gT X) 28 0 [.ref 8, .int (nI j)] [] n k (tW w lt nb (nI l) tt st en) Q ↔ Q (some (.int (if j < l then nI (tv j) else -9))) n k (tW w lt nb (nI l) tt st en) := by
  have hl := ht.1
  have c0 : ¬ nI j < 0 := nI_pos (by omega)
  by_cases q : j < l
  · have c1 : ¬ nI l ≤ nI j := nI_ge q (by omega)
    have c2 : ¬ Int32.ofNat 150 ≤ nI j := nI_ge (a := j) (b := 150) (by omega) (by omega)
    have v : vp_in (nI j) 150 := vp_in_nI (by omega) (by omega)
    rw [if_pos q]
    simp only [eX2_letterAt_0, eX2_letterAt_1, eX2_letterAt_4, eX2_letterAt_5, eX2_letterAt_6, eX2_letterAt_9, eX2_letterAt_12, eX2_letterAt_13, eX2_letterAt_14, eX2_letterAt_17, eX2_letterAt_18, eX2_letterAt_21, eX2_letterAt_22, eX2_letterAt_25, eX2_letterAt_26, eX2_letterAt_27, eX2_letterAt_30, eX2_letterAt_32, Option.toList_some, Option.toList_none, List.cons_append, List.nil_append, gcat_nil, gcat_cons, cat_int, cat_ref, cat_null, cat_ret, cat_long, grc_ref, narZ0, narZ1, true_and, and_true, decide_true, Nat.reduceAdd, Nat.reduceLeDiff, if_true, if_false, eq_self, gfld_in, gobj_in, garr_in, garq_in, glen_in, gisO_in, ex_some, List.getElem?_cons_succ, List.getElem?_cons_zero, List.length_cons, List.length_nil, List.set_cons_succ, List.set_cons_zero, Nat.reduceLT, va_up_eq, va_up_nl, tW_8, tW_9, c0, c1, c2, v, nI_clamp (show j < 2 ^ 31 by omega), (ht.2 j q).1]
  · have c1 : nI l ≤ nI j := nI_le (by omega) (by omega)
    rw [if_neg q]
    simp only [eX2_letterAt_0, eX2_letterAt_1, eX2_letterAt_4, eX2_letterAt_5, eX2_letterAt_6, eX2_letterAt_9, eX2_letterAt_12, eX2_letterAt_13, eX2_letterAt_14, eX2_letterAt_17, eX2_letterAt_18, eX2_letterAt_21, eX2_letterAt_22, eX2_letterAt_25, eX2_letterAt_26, eX2_letterAt_27, eX2_letterAt_30, eX2_letterAt_32, Option.toList_some, Option.toList_none, List.cons_append, List.nil_append, gcat_nil, gcat_cons, cat_int, cat_ref, cat_null, cat_ret, cat_long, grc_ref, narZ0, narZ1, true_and, and_true, decide_true, Nat.reduceAdd, Nat.reduceLeDiff, if_true, if_false, eq_self, gfld_in, gobj_in, garr_in, garq_in, glen_in, gisO_in, ex_some, List.getElem?_cons_succ, List.getElem?_cons_zero, List.length_cons, List.length_nil, List.set_cons_succ, List.set_cons_zero, Nat.reduceLT, va_up_eq, va_up_nl, tW_8, tW_9, c0, c1]
theorem c_isSmallLetter {t : Nat} (ht : t < 256) : gEv (gT X) 40 0 [.int (nI t)] [] n k w Q ↔ Q (some (.int (gb (97 ≤ t ∧ t ≤ 122)))) n k w := by
  have hi : ((97 : Int32) ≤ nI t ∧ nI t ≤ 122) ↔ (97 ≤ t ∧ t ≤ 122) := nI_in2 (a := 97) (b := 122) ht (by omega) (by omega)
  have e : gb ((97 : Int32) ≤ nI t ∧ nI t ≤ 122) = gb (97 ≤ t ∧ t ≤ 122) := gb_eq hi
  simp only [eX2_isSmallLetter_0, eX2_isSmallLetter_1, eX2_isSmallLetter_3, eX2_isSmallLetter_5, eX2_isSmallLetter_8, Option.toList_some, Option.toList_none, List.cons_append, List.nil_append, gcat_nil, gcat_cons, cat_int, cat_ref, cat_null, cat_ret, cat_long, grc_ref, narZ0, narZ1, true_and, and_true, decide_true, Nat.reduceAdd, Nat.reduceLeDiff, if_true, if_false, eq_self, gfld_in, gobj_in, garr_in, garq_in, glen_in, gisO_in, ex_some, List.getElem?_cons_succ, List.getElem?_cons_zero, List.length_cons, List.length_nil, List.set_cons_succ, List.set_cons_zero, Nat.reduceLT, va_up_eq, va_up_nl, c_within, e]
  by_cases q : 97 ≤ t ∧ t ≤ 122
  · simp only [gb_t q, narZ1, true_and]
  · simp only [gb_f q, narZ0, true_and]
theorem c_isFigure {t : Nat} (ht : t < 256) : gEv (gT X) 41 0 [.int (nI t)] [] n k w Q ↔ Q (some (.int (gb (48 ≤ t ∧ t ≤ 57)))) n k w := by
  have hi : ((48 : Int32) ≤ nI t ∧ nI t ≤ 57) ↔ (48 ≤ t ∧ t ≤ 57) := nI_in2 (a := 48) (b := 57) ht (by omega) (by omega)
  have e : gb ((48 : Int32) ≤ nI t ∧ nI t ≤ 57) = gb (48 ≤ t ∧ t ≤ 57) := gb_eq hi
  simp only [eX2_isFigure_0, eX2_isFigure_1, eX2_isFigure_3, eX2_isFigure_5, eX2_isFigure_8, Option.toList_some, Option.toList_none, List.cons_append, List.nil_append, gcat_nil, gcat_cons, cat_int, cat_ref, cat_null, cat_ret, cat_long, grc_ref, narZ0, narZ1, true_and, and_true, decide_true, Nat.reduceAdd, Nat.reduceLeDiff, if_true, if_false, eq_self, gfld_in, gobj_in, garr_in, garq_in, glen_in, gisO_in, ex_some, List.getElem?_cons_succ, List.getElem?_cons_zero, List.length_cons, List.length_nil, List.set_cons_succ, List.set_cons_zero, Nat.reduceLT, va_up_eq, va_up_nl, c_within, e]
  by_cases q : 48 ≤ t ∧ t ≤ 57
  · simp only [gb_t q, narZ1, true_and]
  · simp only [gb_f q, narZ0, true_and]
end TC
