/-! THE PLANNER -/
def pkf (V : List (Nat × Nat)) (p tb : Nat) : Nat → Nat → Nat → Nat := gfor (fun i a => if (V.getD i (0, 0)).2 &&& (p ||| tb) = tb then a ||| 2 ^ (V.getD i (0, 0)).1 else a)
def psh (sh : Nat → Nat) (ks : Nat) : Nat → Nat → Nat → Nat := gfor (fun c a => if ks.testBit c = true then a + sh c else a)
def gVV (vk vs : Nat → Int32) (V : List (Nat × Nat)) : Prop := V.length ≤ 60 ∧ ∀ i, i < V.length → vk i = nI (V.getD i (0, 0)).1 ∧ vs i = nI (V.getD i (0, 0)).2 ∧ (V.getD i (0, 0)).1 < 6 ∧ (V.getD i (0, 0)).2 < 64
def pW (w : gH) (vk vs : Nat → Int32) (vc : Int32) (rp nt : Nat → Int32) : gH := fun a => if a = 15 then (.inr (1, [.ref 16, .ref 17, .int (vc), .ref 18, .ref 19]) : gE) else if a = 16 then (.inl (.int, 60, .inl (vk)) : gE) else if a = 17 then (.inl (.int, 60, .inl (vs)) : gE) else if a = 18 then (.inl (.int, 64, .inl (rp)) : gE) else if a = 19 then (.inl (.int, 64, .inl (nt)) : gE) else w a
section PB
variable {w : gH} {vk vs rp nt : Nat → Int32} {vc : Int32}
theorem pW_15 : pW w vk vs vc rp nt 15 = (.inr (1, [.ref 16, .ref 17, .int (vc), .ref 18, .ref 19]) : gE) := rfl
theorem pW_16 : pW w vk vs vc rp nt 16 = (.inl (.int, 60, .inl (vk)) : gE) := rfl
theorem pW_17 : pW w vk vs vc rp nt 17 = (.inl (.int, 60, .inl (vs)) : gE) := rfl
theorem pW_18 : pW w vk vs vc rp nt 18 = (.inl (.int, 64, .inl (rp)) : gE) := rfl
theorem pW_19 : pW w vk vs vc rp nt 19 = (.inl (.int, 64, .inl (nt)) : gE) := rfl
theorem pW_ne {a : Nat} (h : a < 15 ∨ 19 < a) : pW w vk vs vc rp nt a = w a := by
  unfold pW
  rw [if_neg (by omega), if_neg (by omega), if_neg (by omega), if_neg (by omega), if_neg (by omega)]
theorem pW_p15 {x : Int32} : va_up (pW w vk vs vc rp nt) 15 (.inr (1, [.ref 16, .ref 17, .int (x), .ref 18, .ref 19]) : gE) = pW w vk vs x rp nt := by
  funext z
  unfold pW va_up
  by_cases h : z = 15 <;> simp [h]
theorem pW_p16 {f : Nat → Int32} : va_up (pW w vk vs vc rp nt) 16 (.inl (.int, 60, .inl (f)) : gE) = pW w f vs vc rp nt := by
  funext z
  unfold pW va_up
  by_cases h : z = 16 <;> simp [h]
theorem pW_p17 {f : Nat → Int32} : va_up (pW w vk vs vc rp nt) 17 (.inl (.int, 60, .inl (f)) : gE) = pW w vk f vc rp nt := by
  funext z
  unfold pW va_up
  by_cases h : z = 17 <;> simp [h]
theorem pW_p18 {f : Nat → Int32} : va_up (pW w vk vs vc rp nt) 18 (.inl (.int, 64, .inl (f)) : gE) = pW w vk vs vc f nt := by
  funext z
  unfold pW va_up
  by_cases h : z = 18 <;> simp [h]
theorem pW_p19 {f : Nat → Int32} : va_up (pW w vk vs vc rp nt) 19 (.inl (.int, 64, .inl (f)) : gE) = pW w vk vs vc rp f := by
  funext z
  unfold pW va_up
  by_cases h : z = 19 <;> simp [h]
theorem pW_tr {kr ts co : Nat → Int32} {kc tc rm jm : Int32} (h : isTr w 1 kr ts co kc tc rm jm) : isTr (pW w vk vs vc rp nt) 1 kr ts co kc tc rm jm := by
  obtain ⟨h0, h1, h2, h3⟩ := h
  exact ⟨by rw [pW_ne (by omega), h0], by rw [pW_ne (by omega), h1], by rw [pW_ne (by omega), h2], by rw [pW_ne (by omega), h3]⟩
theorem pW_1 {kr ts co : Nat → Int32} {kc tc rm jm : Int32} (h : isTr w 1 kr ts co kc tc rm jm) : pW w vk vs vc rp nt 1 = .inr (3, [.ref 2, .ref 3, .ref 4, .int kc, .int tc, .int rm, .int jm]) := by
  rw [pW_ne (by omega)]
  exact h.1
theorem pW_self (h15 : w 15 = (.inr (1, [.ref 16, .ref 17, .int (vc), .ref 18, .ref 19]) : gE)) (h16 : w 16 = (.inl (.int, 60, .inl (vk)) : gE)) (h17 : w 17 = (.inl (.int, 60, .inl (vs)) : gE)) (h18 : w 18 = (.inl (.int, 64, .inl (rp)) : gE)) (h19 : w 19 = (.inl (.int, 64, .inl (nt)) : gE)) : pW w vk vs vc rp nt = w := by
  funext z
  unfold pW
  by_cases q1 : z = 15
  · rw [if_pos q1, q1, h15]
  · rw [if_neg q1]
    by_cases q2 : z = 16
    · rw [if_pos q2, q2, h16]
    · rw [if_neg q2]
      by_cases q3 : z = 17
      · rw [if_pos q3, q3, h17]
      · rw [if_neg q3]
        by_cases q4 : z = 18
        · rw [if_pos q4, q4, h18]
        · rw [if_neg q4]
          by_cases q5 : z = 19
          · rw [if_pos q5, q5, h19]
          · rw [if_neg q5]
end PB
theorem pkf_lt (V : List (Nat × Nat)) (hV : ∀ i, i < V.length → (V.getD i (0, 0)).1 < 6) (p tb : Nat) : ∀ (D j a : Nat), j + D ≤ V.length → a < 64 → pkf V p tb j D a < 64 := by
  intro D
  induction D with
  | zero => intro j a _ h; exact h
  | succ D ih =>
    intro j a hj h
    have e : pkf V p tb j (D + 1) a = pkf V p tb (j + 1) D (if (V.getD j (0, 0)).2 &&& (p ||| tb) = tb then a ||| 2 ^ (V.getD j (0, 0)).1 else a) := rfl
    rw [e]
    refine ih (j + 1) _ (by omega) ?_
    by_cases q : (V.getD j (0, 0)).2 &&& (p ||| tb) = tb
    · rw [if_pos q]
      exact or_lt (i := 6) h (Nat.pow_lt_pow_right (by omega) (hV j (by omega)))
    · rw [if_neg q]; exact h
section PC
variable {X : gX} {n k : Nat} {w : gH} {Q : Option Value → Nat → Nat → gH → Prop} {vk vs rp nt : Nat → Int32} {V : List (Nat × Nat)} {kr ts co : Nat → Int32} {rm jm : Int32} {K N : Nat}
theorem c_kindsFalling (hV : gVV vk vs V) {p tb : Nat} (hp : p < 64) (ht : tb < 64) : gEv (gT X) 22 0 [.ref 15, .int (nI p), .int (nI tb), .null, .null] [] n k (pW w vk vs (nI V.length) rp nt) Q ↔ Q (some (.int (nI (pkf V p tb 0 V.length 0)))) n k (pW w vk vs (nI V.length) rp nt) := by
  obtain ⟨hl, hV⟩ := hV
  have loop : ∀ (D j a : Nat), j + D = V.length → (gEv (gT X) 22 5 [.ref 15, .int (nI p), .int (nI tb), .int (nI a), .int (nI j)] [] n k (pW w vk vs (nI V.length) rp nt) Q ↔ Q (some (.int (nI (pkf V p tb j D a)))) n k (pW w vk vs (nI V.length) rp nt)) := by
    intro D
    induction D with
    | zero =>
      intro j a hj
      have hc : nI V.length ≤ nI j := nI_le (by omega) (by omega)
      rw [eX1_kindsFalling_5]
      simp only [eX1_kindsFalling_7, eX1_kindsFalling_8, eX1_kindsFalling_11, eX1_kindsFalling_67, eX1_kindsFalling_68, Option.toList_some, Option.toList_none, List.cons_append, List.nil_append, gcat_nil, gcat_cons, cat_int, cat_ref, cat_null, cat_ret, cat_long, grc_ref, narZ0, narZ1, true_and, and_true, decide_true, Nat.reduceAdd, Nat.reduceLeDiff, if_true, if_false, eq_self, gfld_in, gobj_in, garr_in, garq_in, glen_in, gisO_in, ex_some, List.getElem?_cons_succ, List.getElem?_cons_zero, List.length_cons, List.length_nil, List.set_cons_succ, List.set_cons_zero, Nat.reduceLT, va_up_eq, va_up_nl, pW_15, hc]
      rfl
    | succ D ih =>
      intro j a hj
      have hc : ¬ nI V.length ≤ nI j := nI_ge (by omega) (by omega)
      have hc6 : ¬ Int32.ofNat 60 ≤ nI j := nI_ge (a := j) (b := 60) (by omega) (by omega)
      have v : vp_in (nI j) 60 := vp_in_nI (by omega) (by omega)
      obtain ⟨h1, h2, h3, h4⟩ := hV j (by omega)
      have e : pkf V p tb j (D + 1) a = pkf V p tb (j + 1) D (if (V.getD j (0, 0)).2 &&& (p ||| tb) = tb then a ||| 2 ^ (V.getD j (0, 0)).1 else a) := rfl
      have hb : (V.getD j (0, 0)).2 &&& (p ||| tb) < 64 := Nat.lt_of_le_of_lt Nat.and_le_left h4
      have hi : (nI ((V.getD j (0, 0)).2 &&& (p ||| tb)) = nI tb) ↔ (V.getD j (0, 0)).2 &&& (p ||| tb) = tb := nI_eq (by omega) (by omega)
      rw [eX1_kindsFalling_5, e]
      simp only [eX1_kindsFalling_7, eX1_kindsFalling_8, eX1_kindsFalling_11, eX1_kindsFalling_14, eX1_kindsFalling_16, eX1_kindsFalling_17, eX1_kindsFalling_20, eX1_kindsFalling_21, eX1_kindsFalling_24, eX1_kindsFalling_26, eX1_kindsFalling_27, eX1_kindsFalling_30, eX1_kindsFalling_31, eX1_kindsFalling_34, eX1_kindsFalling_35, eX1_kindsFalling_38, eX1_kindsFalling_40, eX1_kindsFalling_41, eX1_kindsFalling_42, eX1_kindsFalling_43, eX1_kindsFalling_44, eX1_kindsFalling_45, eX1_kindsFalling_46, Option.toList_some, Option.toList_none, List.cons_append, List.nil_append, gcat_nil, gcat_cons, cat_int, cat_ref, cat_null, cat_ret, cat_long, grc_ref, narZ0, narZ1, true_and, and_true, decide_true, Nat.reduceAdd, Nat.reduceLeDiff, if_true, if_false, eq_self, gfld_in, gobj_in, garr_in, garq_in, glen_in, gisO_in, ex_some, List.getElem?_cons_succ, List.getElem?_cons_zero, List.length_cons, List.length_nil, List.set_cons_succ, List.set_cons_zero, Nat.reduceLT, va_up_eq, va_up_nl, pW_15, pW_16, pW_17, hc, hc6, v, nI_clamp (show j < 2 ^ 31 by omega), h2, nI_or, nI_and, hi]
      by_cases q : (V.getD j (0, 0)).2 &&& (p ||| tb) = tb
      · rw [if_neg (fun z => z q), if_pos q]
        simp only [eX1_kindsFalling_49, eX1_kindsFalling_50, eX1_kindsFalling_51, eX1_kindsFalling_52, eX1_kindsFalling_55, eX1_kindsFalling_57, eX1_kindsFalling_58, eX1_kindsFalling_59, eX1_kindsFalling_60, eX1_kindsFalling_60b, eX1_kindsFalling_60c, eX1_kindsFalling_60d, eX1_kindsFalling_61, eX1_kindsFalling_61b, eX1_kindsFalling_61c, eX1_kindsFalling_61d, eX1_kindsFalling_64, Option.toList_some, Option.toList_none, List.cons_append, List.nil_append, gcat_nil, gcat_cons, cat_int, cat_ref, cat_null, cat_ret, cat_long, grc_ref, narZ0, narZ1, true_and, and_true, decide_true, Nat.reduceAdd, Nat.reduceLeDiff, if_true, if_false, eq_self, gfld_in, gobj_in, garr_in, garq_in, glen_in, gisO_in, ex_some, List.getElem?_cons_succ, List.getElem?_cons_zero, List.length_cons, List.length_nil, List.set_cons_succ, List.set_cons_zero, Nat.reduceLT, va_up_eq, va_up_nl, pW_15, pW_16, v, nI_clamp (show j < 2 ^ 31 by omega), h1, nI_shl _ (show (V.getD j (0, 0)).1 < 8 by omega), nI_or, nI_1]
        exact ih (j + 1) _ (by omega)
      · rw [if_pos q, if_neg q]
        simp only [eX1_kindsFalling_61, eX1_kindsFalling_61b, eX1_kindsFalling_61c, eX1_kindsFalling_61d, eX1_kindsFalling_64, Option.toList_some, Option.toList_none, List.cons_append, List.nil_append, gcat_nil, gcat_cons, cat_int, cat_ref, cat_null, cat_ret, cat_long, grc_ref, narZ0, narZ1, true_and, and_true, decide_true, Nat.reduceAdd, Nat.reduceLeDiff, if_true, if_false, eq_self, gfld_in, gobj_in, garr_in, garq_in, glen_in, gisO_in, ex_some, List.getElem?_cons_succ, List.getElem?_cons_zero, List.length_cons, List.length_nil, List.set_cons_succ, List.set_cons_zero, Nat.reduceLT, va_up_eq, va_up_nl, nI_1]
        exact ih (j + 1) _ (by omega)
  have := loop V.length 0 0 (by omega)
  rw [nI_0] at this
  simp only [eX1_kindsFalling_0, eX1_kindsFalling_1, eX1_kindsFalling_1b, eX1_kindsFalling_1c, eX1_kindsFalling_1d, eX1_kindsFalling_2, eX1_kindsFalling_3, eX1_kindsFalling_3b, eX1_kindsFalling_3c, eX1_kindsFalling_3d, Option.toList_some, Option.toList_none, List.cons_append, List.nil_append, gcat_nil, gcat_cons, cat_int, cat_ref, cat_null, cat_ret, cat_long, grc_ref, narZ0, narZ1, true_and, and_true, decide_true, Nat.reduceAdd, Nat.reduceLeDiff, if_true, if_false, eq_self, gfld_in, gobj_in, garr_in, garq_in, glen_in, gisO_in, ex_some, List.getElem?_cons_succ, List.getElem?_cons_zero, List.length_cons, List.length_nil, List.set_cons_succ, List.set_cons_zero, Nat.reduceLT, va_up_eq, va_up_nl]
  exact this
theorem c_kindsRolling (hV : gVV vk vs V) {p : Nat} (hp : p < 64) : gEv (gT X) 21 0 [.ref 15, .int (nI p)] [] n k (pW w vk vs (nI V.length) rp nt) Q ↔ Q (some (.int (nI (pkf V p 0 0 V.length 0)))) n k (pW w vk vs (nI V.length) rp nt) := by
  have f : ∀ {Q : Option Value → Nat → Nat → gH → Prop}, gEv (gT X) 22 0 [.ref 15, .int (nI p), .int 0, .null, .null] [] n k (pW w vk vs (nI V.length) rp nt) Q ↔ Q (some (.int (nI (pkf V p 0 0 V.length 0)))) n k (pW w vk vs (nI V.length) rp nt) := c_kindsFalling (tb := 0) hV hp (by omega)
  simp only [eX1_kindsRolling_0, eX1_kindsRolling_1, eX1_kindsRolling_2, eX1_kindsRolling_3, eX1_kindsRolling_6, Option.toList_some, Option.toList_none, List.cons_append, List.nil_append, gcat_nil, gcat_cons, cat_int, cat_ref, cat_null, cat_ret, cat_long, grc_ref, narZ0, narZ1, true_and, and_true, decide_true, Nat.reduceAdd, Nat.reduceLeDiff, if_true, if_false, eq_self, gfld_in, gobj_in, garr_in, garq_in, glen_in, gisO_in, ex_some, List.getElem?_cons_succ, List.getElem?_cons_zero, List.length_cons, List.length_nil, List.set_cons_succ, List.set_cons_zero, Nat.reduceLT, va_up_eq, va_up_nl, pW_15, f]
theorem c_oneSet {a : Nat} (ha : a < 128) : gEv (gT X) 114 0 [.int (nI a)] [] n k w Q ↔ Q (some (.int (gb (pone a)))) n k w := by
  rw [c_isOneAtMost, gb_eq (nI_one a ha)]
theorem c_shareOf (hT : isTr w 1 kr ts co (nI K) (nI N) rm jm) (hK : K ≤ 6) {sh : Nat → Nat} (hS : ∀ c, c < K → kr (5 * c + 4) = nI (sh c)) {ks : Nat} (hk : ks < 64) {vc : Int32} : gEv (gT X) 23 0 [.ref 15, .ref 1, .int (nI ks), .null, .null] [] n k (pW w vk vs vc rp nt) Q ↔ Q (some (.int (nI (psh sh ks 0 K 0)))) n k (pW w vk vs vc rp nt) := by
  have loop : ∀ (D j a : Nat), j + D = K → (gEv (gT X) 23 5 [.ref 15, .ref 1, .int (nI ks), .int (nI a), .int (nI j)] [] n k (pW w vk vs vc rp nt) Q ↔ Q (some (.int (nI (psh sh ks j D a)))) n k (pW w vk vs vc rp nt)) := by
    intro D
    induction D with
    | zero =>
      intro j a hj
      have hc : nI K ≤ nI j := nI_le (by omega) (by omega)
      rw [eX1_shareOf_5]
      simp only [eX1_shareOf_7, eX1_shareOf_8, eX1_shareOf_11, eX1_shareOf_39, eX1_shareOf_40, Option.toList_some, Option.toList_none, List.cons_append, List.nil_append, gcat_nil, gcat_cons, cat_int, cat_ref, cat_null, cat_ret, cat_long, grc_ref, narZ0, narZ1, true_and, and_true, decide_true, Nat.reduceAdd, Nat.reduceLeDiff, if_true, if_false, eq_self, gfld_in, gobj_in, garr_in, garq_in, glen_in, gisO_in, ex_some, List.getElem?_cons_succ, List.getElem?_cons_zero, List.length_cons, List.length_nil, List.set_cons_succ, List.set_cons_zero, Nat.reduceLT, va_up_eq, va_up_nl, pW_1 hT, hc]
      rfl
    | succ D ih =>
      intro j a hj
      have hc : ¬ nI K ≤ nI j := nI_ge (by omega) (by omega)
      have hb := (nI_bit ks (by omega) j (by omega)).2
      have eo : gof kr 30 (nI j * 5 + 4) = nI (sh j) := by rw [nI5, nIp4, gof_at (by omega) (by omega), hS j (by omega)]
      have e : psh sh ks j (D + 1) a = psh sh ks (j + 1) D (if ks.testBit j = true then a + sh j else a) := rfl
      rw [eX1_shareOf_5, e]
      simp only [eX1_shareOf_7, eX1_shareOf_8, eX1_shareOf_11, eX1_shareOf_14, eX1_shareOf_15, eX1_shareOf_17, eX1_shareOf_18, eX1_shareOf_19, eX1_shareOf_20, Option.toList_some, Option.toList_none, List.cons_append, List.nil_append, gcat_nil, gcat_cons, cat_int, cat_ref, cat_null, cat_ret, cat_long, grc_ref, narZ0, narZ1, true_and, and_true, decide_true, Nat.reduceAdd, Nat.reduceLeDiff, if_true, if_false, eq_self, gfld_in, gobj_in, garr_in, garq_in, glen_in, gisO_in, ex_some, List.getElem?_cons_succ, List.getElem?_cons_zero, List.length_cons, List.length_nil, List.set_cons_succ, List.set_cons_zero, Nat.reduceLT, va_up_eq, va_up_nl, pW_1 hT, hc, hb]
      by_cases q : ks.testBit j = true
      · rw [if_pos q, if_neg (by rw [q]; decide)]
        simp only [eX1_shareOf_23, eX1_shareOf_24, eX1_shareOf_25, eX1_shareOf_27, eX1_shareOf_28, eX1_shareOf_31, eX1_shareOf_32, eX1_shareOf_32b, eX1_shareOf_32c, eX1_shareOf_32d, eX1_shareOf_33, eX1_shareOf_33b, eX1_shareOf_33c, eX1_shareOf_33d, eX1_shareOf_36, Option.toList_some, Option.toList_none, List.cons_append, List.nil_append, gcat_nil, gcat_cons, cat_int, cat_ref, cat_null, cat_ret, cat_long, grc_ref, narZ0, narZ1, true_and, and_true, decide_true, Nat.reduceAdd, Nat.reduceLeDiff, if_true, if_false, eq_self, gfld_in, gobj_in, garr_in, garq_in, glen_in, gisO_in, ex_some, List.getElem?_cons_succ, List.getElem?_cons_zero, List.length_cons, List.length_nil, List.set_cons_succ, List.set_cons_zero, Nat.reduceLT, va_up_eq, va_up_nl, pW_1 hT, c_ofKind (pW_tr hT), eo, nI_add, nI_1]
        exact ih (j + 1) _ (by omega)
      · rw [if_neg q, if_pos (by simpa using q)]
        simp only [eX1_shareOf_33, eX1_shareOf_33b, eX1_shareOf_33c, eX1_shareOf_33d, eX1_shareOf_36, Option.toList_some, Option.toList_none, List.cons_append, List.nil_append, gcat_nil, gcat_cons, cat_int, cat_ref, cat_null, cat_ret, cat_long, grc_ref, narZ0, narZ1, true_and, and_true, decide_true, Nat.reduceAdd, Nat.reduceLeDiff, if_true, if_false, eq_self, gfld_in, gobj_in, garr_in, garq_in, glen_in, gisO_in, ex_some, List.getElem?_cons_succ, List.getElem?_cons_zero, List.length_cons, List.length_nil, List.set_cons_succ, List.set_cons_zero, Nat.reduceLT, va_up_eq, va_up_nl, nI_1]
        exact ih (j + 1) _ (by omega)
  have := loop K 0 0 (by omega)
  rw [nI_0] at this
  simp only [eX1_shareOf_0, eX1_shareOf_1, eX1_shareOf_1b, eX1_shareOf_1c, eX1_shareOf_1d, eX1_shareOf_2, eX1_shareOf_3, eX1_shareOf_3b, eX1_shareOf_3c, eX1_shareOf_3d, Option.toList_some, Option.toList_none, List.cons_append, List.nil_append, gcat_nil, gcat_cons, cat_int, cat_ref, cat_null, cat_ret, cat_long, grc_ref, narZ0, narZ1, true_and, and_true, decide_true, Nat.reduceAdd, Nat.reduceLeDiff, if_true, if_false, eq_self, gfld_in, gobj_in, garr_in, garq_in, glen_in, gisO_in, ex_some, List.getElem?_cons_succ, List.getElem?_cons_zero, List.length_cons, List.length_nil, List.set_cons_succ, List.set_cons_zero, Nat.reduceLT, va_up_eq, va_up_nl]
  exact this
def ppr (V : List (Nat × Nat)) (co : Nat → Int32) (rp : Nat → Int32) (p t : Nat) (S : Int32) : Int32 := if p ||| 2 ^ t = p ∨ rp (p ||| 2 ^ t) = -9 then -9 else if pone (pkf V p (2 ^ t) 0 V.length 0) then rp (p ||| 2 ^ t) + S * co t else -9
theorem c_priceBy (hV : gVV vk vs V) (hT : isTr w 1 kr ts co (nI K) (nI N) rm jm) {p t : Nat} (hp : p < 64) (ht : t < 6) {S : Int32} : gEv (gT X) 20 0 [.ref 15, .ref 1, .int (nI p), .int (nI t), .int S, .null] [] n k (pW w vk vs (nI V.length) rp nt) Q ↔ Q (some (.int (ppr V (fun t => ts (3 * t + 2)) rp p t S))) n k (pW w vk vs (nI V.length) rp nt) := by
  have h2 : 2 ^ t < 64 := Nat.pow_lt_pow_right (n := 6) (by omega) ht
  have hor : p ||| 2 ^ t < 64 := or_lt (i := 6) hp h2
  have c1 : (nI (p ||| 2 ^ t) = nI p) ↔ p ||| 2 ^ t = p := nI_eq (by omega) (by omega)
  have c2 : ¬ nI (p ||| 2 ^ t) < 0 := nI_pos (by omega)
  have c3 : ¬ 64 ≤ nI (p ||| 2 ^ t) := nI_ge (b := 64) (by omega) (by omega)
  have v : vp_in (nI (p ||| 2 ^ t)) 64 := vp_in_nI (by omega) (by omega)
  have eo : gof ts 18 (nI t * 3 + 2) = ts (3 * t + 2) := by rw [nI3, nIp2, gof_at (by omega) (by omega)]
  have hk : pkf V p (2 ^ t) 0 V.length 0 < 128 := by have := pkf_lt V (fun i hi => (hV.2 i hi).2.2.1) p (2 ^ t) V.length 0 0 (by omega) (by omega); omega
  unfold ppr
  simp only [eX1_priceBy_0, eX1_priceBy_1, eX1_priceBy_2, eX1_priceBy_3, eX1_priceBy_4, eX1_priceBy_5, eX1_priceBy_5b, eX1_priceBy_5c, eX1_priceBy_5d, eX1_priceBy_7, eX1_priceBy_9, eX1_priceBy_10, Option.toList_some, Option.toList_none, List.cons_append, List.nil_append, gcat_nil, gcat_cons, cat_int, cat_ref, cat_null, cat_ret, cat_long, grc_ref, narZ0, narZ1, true_and, and_true, decide_true, Nat.reduceAdd, Nat.reduceLeDiff, if_true, if_false, eq_self, gfld_in, gobj_in, garr_in, garq_in, glen_in, gisO_in, ex_some, List.getElem?_cons_succ, List.getElem?_cons_zero, List.length_cons, List.length_nil, List.set_cons_succ, List.set_cons_zero, Nat.reduceLT, va_up_eq, va_up_nl, nI_shl t (by omega), nI_or, c1]
  by_cases q1 : p ||| 2 ^ t = p
  · rw [if_pos q1, if_pos (Or.inl q1)]
    simp only [eX1_priceBy_37, eX1_priceBy_39, Option.toList_some, Option.toList_none, List.cons_append, List.nil_append, gcat_nil, gcat_cons, cat_int, cat_ref, cat_null, cat_ret, cat_long, grc_ref, narZ0, narZ1, true_and, and_true, decide_true, Nat.reduceAdd, Nat.reduceLeDiff, if_true, if_false, eq_self, gfld_in, gobj_in, garr_in, garq_in, glen_in, gisO_in, ex_some, List.getElem?_cons_succ, List.getElem?_cons_zero, List.length_cons, List.length_nil, List.set_cons_succ, List.set_cons_zero, Nat.reduceLT, va_up_eq, va_up_nl]
  · rw [if_neg q1]
    simp only [eX1_priceBy_13, eX1_priceBy_15, eX1_priceBy_18, eX1_priceBy_20, eX1_priceBy_22, eX1_priceBy_25, eX1_priceBy_26, eX1_priceBy_29, eX1_priceBy_31, eX1_priceBy_32, eX1_priceBy_34, Option.toList_some, Option.toList_none, List.cons_append, List.nil_append, gcat_nil, gcat_cons, cat_int, cat_ref, cat_null, cat_ret, cat_long, grc_ref, narZ0, narZ1, true_and, and_true, decide_true, Nat.reduceAdd, Nat.reduceLeDiff, if_true, if_false, eq_self, gfld_in, gobj_in, garr_in, garq_in, glen_in, gisO_in, ex_some, List.getElem?_cons_succ, List.getElem?_cons_zero, List.length_cons, List.length_nil, List.set_cons_succ, List.set_cons_zero, Nat.reduceLT, va_up_eq, va_up_nl, c2, c3, pW_15, pW_18, v, nI_clamp (show p ||| 2 ^ t < 2 ^ 31 by omega)]
    by_cases q2 : rp (p ||| 2 ^ t) = -9
    · rw [if_neg (fun z => z q2), if_pos (Or.inr q2)]
      simp only [eX1_priceBy_37, eX1_priceBy_39, Option.toList_some, Option.toList_none, List.cons_append, List.nil_append, gcat_nil, gcat_cons, cat_int, cat_ref, cat_null, cat_ret, cat_long, grc_ref, narZ0, narZ1, true_and, and_true, decide_true, Nat.reduceAdd, Nat.reduceLeDiff, if_true, if_false, eq_self, gfld_in, gobj_in, garr_in, garq_in, glen_in, gisO_in, ex_some, List.getElem?_cons_succ, List.getElem?_cons_zero, List.length_cons, List.length_nil, List.set_cons_succ, List.set_cons_zero, Nat.reduceLT, va_up_eq, va_up_nl]
    · rw [if_pos q2, if_neg (fun z => z.elim q1 q2)]
      simp only [eX1_priceBy_40, eX1_priceBy_41, eX1_priceBy_42, eX1_priceBy_43, eX1_priceBy_44, eX1_priceBy_45, eX1_priceBy_48, eX1_priceBy_51, Option.toList_some, Option.toList_none, List.cons_append, List.nil_append, gcat_nil, gcat_cons, cat_int, cat_ref, cat_null, cat_ret, cat_long, grc_ref, narZ0, narZ1, true_and, and_true, decide_true, Nat.reduceAdd, Nat.reduceLeDiff, if_true, if_false, eq_self, gfld_in, gobj_in, garr_in, garq_in, glen_in, gisO_in, ex_some, List.getElem?_cons_succ, List.getElem?_cons_zero, List.length_cons, List.length_nil, List.set_cons_succ, List.set_cons_zero, Nat.reduceLT, va_up_eq, va_up_nl, nI_shl t (by omega), pW_15, c_kindsFalling hV hp h2, c_oneSet hk, gb_0]
      by_cases q3 : pone (pkf V p (2 ^ t) 0 V.length 0)
      · rw [if_pos (fun z => z q3), if_pos q3]
        simp only [eX1_priceBy_57, eX1_priceBy_58, eX1_priceBy_61, eX1_priceBy_63, eX1_priceBy_64, eX1_priceBy_66, eX1_priceBy_67, eX1_priceBy_68, eX1_priceBy_69, eX1_priceBy_72, eX1_priceBy_73, eX1_priceBy_74, Option.toList_some, Option.toList_none, List.cons_append, List.nil_append, gcat_nil, gcat_cons, cat_int, cat_ref, cat_null, cat_ret, cat_long, grc_ref, narZ0, narZ1, true_and, and_true, decide_true, Nat.reduceAdd, Nat.reduceLeDiff, if_true, if_false, eq_self, gfld_in, gobj_in, garr_in, garq_in, glen_in, gisO_in, ex_some, List.getElem?_cons_succ, List.getElem?_cons_zero, List.length_cons, List.length_nil, List.set_cons_succ, List.set_cons_zero, Nat.reduceLT, va_up_eq, va_up_nl, pW_15, pW_18, v, nI_clamp (show p ||| 2 ^ t < 2 ^ 31 by omega), pW_1 hT, c_ofTest (pW_tr hT), eo]
      · rw [if_neg (fun z => z q3), if_neg q3]
        simp only [eX1_priceBy_54, eX1_priceBy_56, Option.toList_some, Option.toList_none, List.cons_append, List.nil_append, gcat_nil, gcat_cons, cat_int, cat_ref, cat_null, cat_ret, cat_long, grc_ref, narZ0, narZ1, true_and, and_true, decide_true, Nat.reduceAdd, Nat.reduceLeDiff, if_true, if_false, eq_self, gfld_in, gobj_in, garr_in, garq_in, glen_in, gisO_in, ex_some, List.getElem?_cons_succ, List.getElem?_cons_zero, List.length_cons, List.length_nil, List.set_cons_succ, List.set_cons_zero, Nat.reduceLT, va_up_eq, va_up_nl]
def pps (V : List (Nat × Nat)) (co : Nat → Int32) (p : Nat) (S : Int32) (t : Nat) (s : (Nat → Int32) × (Nat → Int32)) : (Nat → Int32) × (Nat → Int32) := if ¬ ppr V co s.1 p t S = -9 ∧ (s.1 p = -9 ∨ ppr V co s.1 p t S < s.1 p) then (upd s.1 p (ppr V co s.1 p t S), upd s.2 p (nI t)) else s
def ppb (V : List (Nat × Nat)) (co : Nat → Int32) (sh : Nat → Nat) (K N : Nat) (p : Nat) (s : (Nat → Int32) × (Nat → Int32)) : (Nat → Int32) × (Nat → Int32) := if p = 2 ^ N - 1 then (upd s.1 p (if pone (pkf V p 0 0 V.length 0) then 0 else -9), s.2) else gfor (pps V co p (nI (psh sh (pkf V p 0 0 V.length 0) 0 K 0))) 0 N (upd s.1 p (-9), s.2)
theorem c_planBehind (hV : gVV vk vs V) (hT : isTr w 1 kr ts co (nI K) (nI N) rm jm) (hK : K ≤ 6) (hN : N ≤ 6) {sh : Nat → Nat} (hS : ∀ c, c < K → kr (5 * c + 4) = nI (sh c)) {p : Nat} (hp : p < 2 ^ N) : gEv (gT X) 19 0 [.ref 15, .ref 1, .int (nI p), .int (nI (2 ^ N - 1)), .null, .null, .null, .null] [] n k (pW w vk vs (nI V.length) rp nt) Q ↔ Q none n k (pW w vk vs (nI V.length) (ppb V (fun t => ts (3 * t + 2)) sh K N p (rp, nt)).1 (ppb V (fun t => ts (3 * t + 2)) sh K N p (rp, nt)).2) := by
  have h64 := gp2_64 hN
  have hp6 : p < 64 := by omega
  have c0 : ¬ nI p < 0 := nI_pos (by omega)
  have c1 : nI p < 64 := nI_lt (b := 64) (by omega) (by omega)
  have c2 : (nI p = nI (2 ^ N - 1)) ↔ p = 2 ^ N - 1 := nI_eq (by omega) (by omega)
  have v : vp_in (nI p) 64 := vp_in_nI (by omega) (by omega)
  have hk := pkf_lt V (fun i hi => (hV.2 i hi).2.2.1) p 0 V.length 0 0 (by omega) (by omega)
  have loop : ∀ (S : Int32) (x4 : Int32) (D t : Nat) (rp nt : Nat → Int32) (v7 : Value), t + D = N → (gEv (gT X) 19 64 [.ref 15, .ref 1, .int (nI p), .int (nI (2 ^ N - 1)), .int x4, .int S, .int (nI t), v7] [] n k (pW w vk vs (nI V.length) rp nt) Q ↔ Q none n k (pW w vk vs (nI V.length) (gfor (pps V (fun t => ts (3 * t + 2)) p S) t D (rp, nt)).1 (gfor (pps V (fun t => ts (3 * t + 2)) p S) t D (rp, nt)).2)) := by
    intro S x4 D
    induction D with
    | zero =>
      intro t rp nt v7 ht
      have hc : nI N ≤ nI t := nI_le (by omega) (by omega)
      rw [eX1_planBehind_64]
      simp only [eX1_planBehind_66, eX1_planBehind_67, eX1_planBehind_70, eX1_planBehind_136, Option.toList_some, Option.toList_none, List.cons_append, List.nil_append, gcat_nil, gcat_cons, cat_int, cat_ref, cat_null, cat_ret, cat_long, grc_ref, narZ0, narZ1, true_and, and_true, decide_true, Nat.reduceAdd, Nat.reduceLeDiff, if_true, if_false, eq_self, gfld_in, gobj_in, garr_in, garq_in, glen_in, gisO_in, ex_some, List.getElem?_cons_succ, List.getElem?_cons_zero, List.length_cons, List.length_nil, List.set_cons_succ, List.set_cons_zero, Nat.reduceLT, va_up_eq, va_up_nl, pW_1 hT, hc]
      rfl
    | succ D ih =>
      intro t rp nt v7 ht
      have hc : ¬ nI N ≤ nI t := nI_ge (by omega) (by omega)
      have e : gfor (pps V (fun t => ts (3 * t + 2)) p S) t (D + 1) (rp, nt) = gfor (pps V (fun t => ts (3 * t + 2)) p S) (t + 1) D (pps V (fun t => ts (3 * t + 2)) p S t (rp, nt)) := rfl
      rw [eX1_planBehind_64, e]
      simp only [eX1_planBehind_66, eX1_planBehind_67, eX1_planBehind_70, eX1_planBehind_73, eX1_planBehind_74, eX1_planBehind_75, eX1_planBehind_76, eX1_planBehind_78, eX1_planBehind_80, Option.toList_some, Option.toList_none, List.cons_append, List.nil_append, gcat_nil, gcat_cons, cat_int, cat_ref, cat_null, cat_ret, cat_long, grc_ref, narZ0, narZ1, true_and, and_true, decide_true, Nat.reduceAdd, Nat.reduceLeDiff, if_true, if_false, eq_self, gfld_in, gobj_in, garr_in, garq_in, glen_in, gisO_in, ex_some, List.getElem?_cons_succ, List.getElem?_cons_zero, List.length_cons, List.length_nil, List.set_cons_succ, List.set_cons_zero, Nat.reduceLT, va_up_eq, va_up_nl, pW_15, pW_1 hT, hc, c_priceBy hV hT hp6 (show t < 6 by omega)]
      unfold pps
      dsimp only
      generalize ppr V (fun t => ts (3 * t + 2)) rp p t S = pr
      have yes : (s : Prop) → s = s → gEv (gT X) 19 114 [.ref 15, .ref 1, .int (nI p), .int (nI (2 ^ N - 1)), .int x4, .int S, .int (nI t), .int pr] [] n k (pW w vk vs (nI V.length) rp nt) Q = gEv (gT X) 19 64 [.ref 15, .ref 1, .int (nI p), .int (nI (2 ^ N - 1)), .int x4, .int S, .int (nI (t + 1)), .int pr] [] n k (pW w vk vs (nI V.length) (upd rp p pr) (upd nt p (nI t))) Q := by
        intro _ _
        simp only [eX1_planBehind_114, eX1_planBehind_115, eX1_planBehind_118, eX1_planBehind_119, eX1_planBehind_121, eX1_planBehind_122, eX1_planBehind_123, eX1_planBehind_126, eX1_planBehind_127, eX1_planBehind_129, eX1_planBehind_130, eX1_planBehind_130b, eX1_planBehind_130c, eX1_planBehind_130d, eX1_planBehind_133, Option.toList_some, Option.toList_none, List.cons_append, List.nil_append, gcat_nil, gcat_cons, cat_int, cat_ref, cat_null, cat_ret, cat_long, grc_ref, narZ0, narZ1, true_and, and_true, decide_true, Nat.reduceAdd, Nat.reduceLeDiff, if_true, if_false, eq_self, gfld_in, gobj_in, garr_in, garq_in, glen_in, gisO_in, ex_some, List.getElem?_cons_succ, List.getElem?_cons_zero, List.length_cons, List.length_nil, List.set_cons_succ, List.set_cons_zero, Nat.reduceLT, va_up_eq, va_up_nl, pW_15, pW_18, pW_19, v, nI_clamp (show p < 2 ^ 31 by omega), pW_p18, pW_p19, nI_1]
      have no : gEv (gT X) 19 130 [.ref 15, .ref 1, .int (nI p), .int (nI (2 ^ N - 1)), .int x4, .int S, .int (nI t), .int pr] [] n k (pW w vk vs (nI V.length) rp nt) Q = gEv (gT X) 19 64 [.ref 15, .ref 1, .int (nI p), .int (nI (2 ^ N - 1)), .int x4, .int S, .int (nI (t + 1)), .int pr] [] n k (pW w vk vs (nI V.length) rp nt) Q := by
        simp only [eX1_planBehind_130, eX1_planBehind_130b, eX1_planBehind_130c, eX1_planBehind_130d, eX1_planBehind_133, Option.toList_some, Option.toList_none, List.cons_append, List.nil_append, gcat_nil, gcat_cons, cat_int, cat_ref, cat_null, cat_ret, cat_long, grc_ref, narZ0, narZ1, true_and, and_true, decide_true, Nat.reduceAdd, Nat.reduceLeDiff, if_true, if_false, eq_self, gfld_in, gobj_in, garr_in, garq_in, glen_in, gisO_in, ex_some, List.getElem?_cons_succ, List.getElem?_cons_zero, List.length_cons, List.length_nil, List.set_cons_succ, List.set_cons_zero, Nat.reduceLT, va_up_eq, va_up_nl, nI_1]
      simp only [eX1_planBehind_83, eX1_planBehind_83b, eX1_planBehind_83c, eX1_planBehind_83d, eX1_planBehind_85, eX1_planBehind_87, eX1_planBehind_89, Option.toList_some, Option.toList_none, List.cons_append, List.nil_append, gcat_nil, gcat_cons, cat_int, cat_ref, cat_null, cat_ret, cat_long, grc_ref, narZ0, narZ1, true_and, and_true, decide_true, Nat.reduceAdd, Nat.reduceLeDiff, if_true, if_false, eq_self, gfld_in, gobj_in, garr_in, garq_in, glen_in, gisO_in, ex_some, List.getElem?_cons_succ, List.getElem?_cons_zero, List.length_cons, List.length_nil, List.set_cons_succ, List.set_cons_zero, Nat.reduceLT, va_up_eq, va_up_nl]
      by_cases q1 : pr = -9
      · rw [if_pos q1, if_neg (fun z => z.1 q1), no]
        exact ih (t + 1) _ _ _ (by omega)
      · rw [if_neg q1]
        simp only [eX1_planBehind_92, eX1_planBehind_93, eX1_planBehind_96, eX1_planBehind_97, eX1_planBehind_98, eX1_planBehind_100, Option.toList_some, Option.toList_none, List.cons_append, List.nil_append, gcat_nil, gcat_cons, cat_int, cat_ref, cat_null, cat_ret, cat_long, grc_ref, narZ0, narZ1, true_and, and_true, decide_true, Nat.reduceAdd, Nat.reduceLeDiff, if_true, if_false, eq_self, gfld_in, gobj_in, garr_in, garq_in, glen_in, gisO_in, ex_some, List.getElem?_cons_succ, List.getElem?_cons_zero, List.length_cons, List.length_nil, List.set_cons_succ, List.set_cons_zero, Nat.reduceLT, va_up_eq, va_up_nl, pW_15, pW_18, v, nI_clamp (show p < 2 ^ 31 by omega)]
        by_cases q2 : rp p = -9
        · rw [if_pos q2, if_pos ⟨q1, Or.inl q2⟩, yes True rfl]
          exact ih (t + 1) _ _ _ (by omega)
        · rw [if_neg q2]
          simp only [eX1_planBehind_103, eX1_planBehind_105, eX1_planBehind_106, eX1_planBehind_109, eX1_planBehind_110, eX1_planBehind_111, Option.toList_some, Option.toList_none, List.cons_append, List.nil_append, gcat_nil, gcat_cons, cat_int, cat_ref, cat_null, cat_ret, cat_long, grc_ref, narZ0, narZ1, true_and, and_true, decide_true, Nat.reduceAdd, Nat.reduceLeDiff, if_true, if_false, eq_self, gfld_in, gobj_in, garr_in, garq_in, glen_in, gisO_in, ex_some, List.getElem?_cons_succ, List.getElem?_cons_zero, List.length_cons, List.length_nil, List.set_cons_succ, List.set_cons_zero, Nat.reduceLT, va_up_eq, va_up_nl, pW_15, pW_18, v, nI_clamp (show p < 2 ^ 31 by omega)]
          by_cases q3 : rp p ≤ pr
          · rw [if_pos q3, if_neg (fun z => z.2.elim q2 (Int32.not_lt.mpr q3)), no]
            exact ih (t + 1) _ _ _ (by omega)
          · rw [if_neg q3, if_pos ⟨q1, Or.inr (Int32.not_le.mp q3)⟩, yes True rfl]
            exact ih (t + 1) _ _ _ (by omega)
  simp only [eX1_planBehind_0, eX1_planBehind_1, eX1_planBehind_4, eX1_planBehind_5, eX1_planBehind_7, eX1_planBehind_11, eX1_planBehind_12, eX1_planBehind_13, eX1_planBehind_16, eX1_planBehind_16b, eX1_planBehind_16c, eX1_planBehind_16d, eX1_planBehind_18, eX1_planBehind_19, eX1_planBehind_20, Option.toList_some, Option.toList_none, List.cons_append, List.nil_append, gcat_nil, gcat_cons, cat_int, cat_ref, cat_null, cat_ret, cat_long, grc_ref, narZ0, narZ1, true_and, and_true, decide_true, Nat.reduceAdd, Nat.reduceLeDiff, if_true, if_false, eq_self, gfld_in, gobj_in, garr_in, garq_in, glen_in, gisO_in, ex_some, List.getElem?_cons_succ, List.getElem?_cons_zero, List.length_cons, List.length_nil, List.set_cons_succ, List.set_cons_zero, Nat.reduceLT, va_up_eq, va_up_nl, c0, c1, pW_15, c_kindsRolling hV hp6, c2]
  unfold ppb
  by_cases q : p = 2 ^ N - 1
  · rw [if_neg (fun z => z q), if_pos q]
    simp only [eX1_planBehind_23, eX1_planBehind_24, eX1_planBehind_27, eX1_planBehind_28, eX1_planBehind_30, eX1_planBehind_33, Option.toList_some, Option.toList_none, List.cons_append, List.nil_append, gcat_nil, gcat_cons, cat_int, cat_ref, cat_null, cat_ret, cat_long, grc_ref, narZ0, narZ1, true_and, and_true, decide_true, Nat.reduceAdd, Nat.reduceLeDiff, if_true, if_false, eq_self, gfld_in, gobj_in, garr_in, garq_in, glen_in, gisO_in, ex_some, List.getElem?_cons_succ, List.getElem?_cons_zero, List.length_cons, List.length_nil, List.set_cons_succ, List.set_cons_zero, Nat.reduceLT, va_up_eq, va_up_nl, pW_15, c_oneSet (show pkf V p 0 0 V.length 0 < 128 by omega), gb_0]
    by_cases q2 : pone (pkf V p 0 0 V.length 0)
    · rw [if_neg (fun z => z q2), if_pos q2]
      simp only [eX1_planBehind_36, eX1_planBehind_37, eX1_planBehind_42, eX1_planBehind_43, Option.toList_some, Option.toList_none, List.cons_append, List.nil_append, gcat_nil, gcat_cons, cat_int, cat_ref, cat_null, cat_ret, cat_long, grc_ref, narZ0, narZ1, true_and, and_true, decide_true, Nat.reduceAdd, Nat.reduceLeDiff, if_true, if_false, eq_self, gfld_in, gobj_in, garr_in, garq_in, glen_in, gisO_in, ex_some, List.getElem?_cons_succ, List.getElem?_cons_zero, List.length_cons, List.length_nil, List.set_cons_succ, List.set_cons_zero, Nat.reduceLT, va_up_eq, va_up_nl, pW_18, v, nI_clamp (show p < 2 ^ 31 by omega), pW_p18]
    · rw [if_pos q2, if_neg q2]
      simp only [eX1_planBehind_40, eX1_planBehind_42, eX1_planBehind_43, Option.toList_some, Option.toList_none, List.cons_append, List.nil_append, gcat_nil, gcat_cons, cat_int, cat_ref, cat_null, cat_ret, cat_long, grc_ref, narZ0, narZ1, true_and, and_true, decide_true, Nat.reduceAdd, Nat.reduceLeDiff, if_true, if_false, eq_self, gfld_in, gobj_in, garr_in, garq_in, glen_in, gisO_in, ex_some, List.getElem?_cons_succ, List.getElem?_cons_zero, List.length_cons, List.length_nil, List.set_cons_succ, List.set_cons_zero, Nat.reduceLT, va_up_eq, va_up_nl, pW_18, v, nI_clamp (show p < 2 ^ 31 by omega), pW_p18]
  · rw [if_pos q, if_neg q]
    simp only [eX1_planBehind_44, eX1_planBehind_45, eX1_planBehind_46, eX1_planBehind_48, eX1_planBehind_51, eX1_planBehind_51b, eX1_planBehind_51c, eX1_planBehind_51d, eX1_planBehind_53, eX1_planBehind_54, eX1_planBehind_57, eX1_planBehind_58, eX1_planBehind_60, eX1_planBehind_61, eX1_planBehind_62, eX1_planBehind_62b, eX1_planBehind_62c, eX1_planBehind_62d, Option.toList_some, Option.toList_none, List.cons_append, List.nil_append, gcat_nil, gcat_cons, cat_int, cat_ref, cat_null, cat_ret, cat_long, grc_ref, narZ0, narZ1, true_and, and_true, decide_true, Nat.reduceAdd, Nat.reduceLeDiff, if_true, if_false, eq_self, gfld_in, gobj_in, garr_in, garq_in, glen_in, gisO_in, ex_some, List.getElem?_cons_succ, List.getElem?_cons_zero, List.length_cons, List.length_nil, List.set_cons_succ, List.set_cons_zero, Nat.reduceLT, va_up_eq, va_up_nl, pW_15, pW_18, c_shareOf hT hK hS hk, v, nI_clamp (show p < 2 ^ 31 by omega), pW_p18]
    exact loop _ _ N 0 _ _ _ (by omega)
end PC
