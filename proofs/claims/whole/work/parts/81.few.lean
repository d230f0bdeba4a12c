/-! THE PLANNER: the fewest -/
def jb1 (x : Int32) : Int32 := x - ((x.toUInt32 >>> ((1 : Int32).toUInt32 &&& Int32.toUInt32 31)).toInt32 &&& 1431655765)
def jb2 (x : Int32) : Int32 := (x &&& 858993459) + ((x.toUInt32 >>> ((2 : Int32).toUInt32 &&& Int32.toUInt32 31)).toInt32 &&& 858993459)
def jb3 (x : Int32) : Int32 := (x + (x.toUInt32 >>> ((4 : Int32).toUInt32 &&& Int32.toUInt32 31)).toInt32) &&& 252645135
def jb4 (x : Int32) : Int32 := x + (x.toUInt32 >>> ((8 : Int32).toUInt32 &&& Int32.toUInt32 31)).toInt32
def jb5 (x : Int32) : Int32 := x + (x.toUInt32 >>> ((16 : Int32).toUInt32 &&& Int32.toUInt32 31)).toInt32
def jbc (x : Int32) : Int32 := jb5 (jb4 (jb3 (jb2 (jb1 x)))) &&& 63
theorem jbc_ok : ∀ s, s < 64 → jbc (nI s) = mon (nI s) := by decide +kernel
section PE
variable {X : gX} {n k : Nat} {w : gH} {Q : Option Value → Nat → Nat → gH → Prop} {vk vs rp nt : Nat → Int32} {V : List (Nat × Nat)} {kr ts co : Nat → Int32} {rm jm : Int32} {K N : Nat} {We : Nat → Nat} {sh : Nat → Nat}
theorem cJ_bitCount {x : Int32} : gEv (gT X) 7 0 [.int x] [] n k w Q ↔ Q (some (.int (jbc x))) n k w := by
  simp only [eJ6_bitCount_0f7a4_0, eJ6_bitCount_0f7a4_1, eJ6_bitCount_0f7a4_2, eJ6_bitCount_0f7a4_3, eJ6_bitCount_0f7a4_4, eJ6_bitCount_0f7a4_7, eJ6_bitCount_0f7a4_8, eJ6_bitCount_0f7a4_9, eJ6_bitCount_0f7a4_10, eJ6_bitCount_0f7a4_11, eJ6_bitCount_0f7a4_14, eJ6_bitCount_0f7a4_15, eJ6_bitCount_0f7a4_16, eJ6_bitCount_0f7a4_17, eJ6_bitCount_0f7a4_18, eJ6_bitCount_0f7a4_21, eJ6_bitCount_0f7a4_22, eJ6_bitCount_0f7a4_23, eJ6_bitCount_0f7a4_24, eJ6_bitCount_0f7a4_25, eJ6_bitCount_0f7a4_26, eJ6_bitCount_0f7a4_27, eJ6_bitCount_0f7a4_28, eJ6_bitCount_0f7a4_29, eJ6_bitCount_0f7a4_32, eJ6_bitCount_0f7a4_33, eJ6_bitCount_0f7a4_34, eJ6_bitCount_0f7a4_35, eJ6_bitCount_0f7a4_36, eJ6_bitCount_0f7a4_38, eJ6_bitCount_0f7a4_39, eJ6_bitCount_0f7a4_40, eJ6_bitCount_0f7a4_41, eJ6_bitCount_0f7a4_42, eJ6_bitCount_0f7a4_43, eJ6_bitCount_0f7a4_45, eJ6_bitCount_0f7a4_46, eJ6_bitCount_0f7a4_47, eJ6_bitCount_0f7a4_48, eJ6_bitCount_0f7a4_49, eJ6_bitCount_0f7a4_51, eJ6_bitCount_0f7a4_52, Option.toList_some, Option.toList_none, List.cons_append, List.nil_append, gcat_nil, gcat_cons, cat_int, cat_ref, cat_null, cat_ret, cat_long, grc_ref, narZ0, narZ1, true_and, and_true, decide_true, Nat.reduceAdd, Nat.reduceLeDiff, if_true, if_false, eq_self, gfld_in, gobj_in, garr_in, garq_in, glen_in, gisO_in, ex_some, List.getElem?_cons_succ, List.getElem?_cons_zero, List.length_cons, List.length_nil, List.set_cons_succ, List.set_cons_zero, Nat.reduceLT, va_up_eq, va_up_nl]
  rfl
/-- kinds are apart by a set of tests -/
def pab (V : List (Nat × Nat)) (s : Nat) : Nat → Nat → Nat → Prop
  | _, 0, p => pone (pkf V p 0 0 V.length 0)
  | t, D + 1, p => if s.testBit t = true then (pone (pkf V p (2 ^ t) 0 V.length 0) ∧ pab V s (t + 1) D (p ||| 2 ^ t)) else pab V s (t + 1) D p
theorem and_bit {s t : Nat} : s &&& 2 ^ t = if s.testBit t = true then 2 ^ t else 0 := by
  apply Nat.eq_of_testBit_eq
  intro i
  rw [Nat.testBit_and, Nat.testBit_two_pow]
  by_cases h : t = i
  · subst h
    by_cases q : s.testBit t = true
    · rw [if_pos q, Nat.testBit_two_pow, q]; simp
    · rw [if_neg q]; simp at q; rw [q]; simp
  · by_cases q : s.testBit t = true
    · rw [if_pos q, Nat.testBit_two_pow]; simp [h]
    · rw [if_neg q]; simp [h]
theorem c_apartBy (hV : gVV vk vs V) (hT : isTr w 1 kr ts co (nI K) (nI N) rm jm) (hN : N ≤ 6) {s : Nat} (hs : s < 64) (h1 : pab V s 0 N 0 → Q (some (.int 1)) n k (pW w vk vs (nI V.length) rp nt)) (h0 : ¬ pab V s 0 N 0 → Q (some (.int 0)) n k (pW w vk vs (nI V.length) rp nt)) : gEv (gT X) 17 0 [.ref 15, .ref 1, .int (nI s), .null, .null, .null] [] n k (pW w vk vs (nI V.length) rp nt) Q := by
  have hkl : ∀ p tb, pkf V p tb 0 V.length 0 < 128 := by
    intro p tb
    have := pkf_lt V (fun i hi => (hV.2 i hi).2.2.1) p tb V.length 0 0 (by omega) (by omega)
    omega
  have loop : ∀ (D t p : Nat) (v5 : Value), t + D = N → p < 64 → (pab V s t D p → Q (some (.int 1)) n k (pW w vk vs (nI V.length) rp nt)) → (¬ pab V s t D p → Q (some (.int 0)) n k (pW w vk vs (nI V.length) rp nt)) → gEv (gT X) 17 5 [.ref 15, .ref 1, .int (nI s), .int (nI p), .int (nI t), v5] [] n k (pW w vk vs (nI V.length) rp nt) Q := by
    intro D
    induction D with
    | zero =>
      intro t p v5 ht hp h1 h0
      have hc : nI N ≤ nI t := nI_le (by omega) (by omega)
      rw [pab] at h1 h0
      rw [eX1_apartBy_5]
      simp only [eX1_apartBy_7, eX1_apartBy_8, eX1_apartBy_11, eX1_apartBy_53, eX1_apartBy_54, eX1_apartBy_55, eX1_apartBy_58, eX1_apartBy_61, Option.toList_some, Option.toList_none, List.cons_append, List.nil_append, gcat_nil, gcat_cons, cat_int, cat_ref, cat_null, cat_ret, cat_long, grc_ref, narZ0, narZ1, true_and, and_true, decide_true, Nat.reduceAdd, Nat.reduceLeDiff, if_true, if_false, eq_self, gfld_in, gobj_in, garr_in, garq_in, glen_in, gisO_in, ex_some, List.getElem?_cons_succ, List.getElem?_cons_zero, List.length_cons, List.length_nil, List.set_cons_succ, List.set_cons_zero, Nat.reduceLT, va_up_eq, va_up_nl, pW_1 hT, hc, pW_15, c_kindsRolling hV hp, c_oneSet (hkl p 0)]
      by_cases q : pone (pkf V p 0 0 V.length 0)
      · rw [gb_t q]; simp only [narZ1, true_and]; exact h1 q
      · rw [gb_f q]; simp only [narZ0, true_and]; exact h0 q
    | succ D ih =>
      intro t p v5 ht hp h1 h0
      have hc : ¬ nI N ≤ nI t := nI_ge (by omega) (by omega)
      have h2 : 2 ^ t < 64 := Nat.pow_lt_pow_right (n := 6) (by omega) (by omega)
      rw [pab] at h1 h0
      rw [eX1_apartBy_5]
      simp only [eX1_apartBy_7, eX1_apartBy_8, eX1_apartBy_11, eX1_apartBy_14, eX1_apartBy_15, eX1_apartBy_16, eX1_apartBy_18, eX1_apartBy_19, eX1_apartBy_20, eX1_apartBy_20b, eX1_apartBy_20c, eX1_apartBy_20d, eX1_apartBy_22, eX1_apartBy_24, Option.toList_some, Option.toList_none, List.cons_append, List.nil_append, gcat_nil, gcat_cons, cat_int, cat_ref, cat_null, cat_ret, cat_long, grc_ref, narZ0, narZ1, true_and, and_true, decide_true, Nat.reduceAdd, Nat.reduceLeDiff, if_true, if_false, eq_self, gfld_in, gobj_in, garr_in, garq_in, glen_in, gisO_in, ex_some, List.getElem?_cons_succ, List.getElem?_cons_zero, List.length_cons, List.length_nil, List.set_cons_succ, List.set_cons_zero, Nat.reduceLT, va_up_eq, va_up_nl, pW_1 hT, hc, nI_shl t (by omega), nI_and, and_bit]
      by_cases q : s.testBit t = true
      · rw [if_pos q] at h1 h0 ⊢
        have hne : ¬ nI (2 ^ t) = 0 := nI_ne0 (Nat.pow_pos (by omega)) (by omega)
        rw [if_neg hne]
        simp only [eX1_apartBy_27, eX1_apartBy_28, eX1_apartBy_29, eX1_apartBy_31, eX1_apartBy_34, eX1_apartBy_37, Option.toList_some, Option.toList_none, List.cons_append, List.nil_append, gcat_nil, gcat_cons, cat_int, cat_ref, cat_null, cat_ret, cat_long, grc_ref, narZ0, narZ1, true_and, and_true, decide_true, Nat.reduceAdd, Nat.reduceLeDiff, if_true, if_false, eq_self, gfld_in, gobj_in, garr_in, garq_in, glen_in, gisO_in, ex_some, List.getElem?_cons_succ, List.getElem?_cons_zero, List.length_cons, List.length_nil, List.set_cons_succ, List.set_cons_zero, Nat.reduceLT, va_up_eq, va_up_nl, pW_15, c_kindsFalling hV hp h2, c_oneSet (hkl p (2 ^ t)), gb_0]
        by_cases q2 : pone (pkf V p (2 ^ t) 0 V.length 0)
        · rw [if_pos (fun z => z q2)]
          simp only [eX1_apartBy_42, eX1_apartBy_43, eX1_apartBy_45, eX1_apartBy_46, eX1_apartBy_46b, eX1_apartBy_46c, eX1_apartBy_46d, eX1_apartBy_47, eX1_apartBy_47b, eX1_apartBy_47c, eX1_apartBy_47d, eX1_apartBy_50, Option.toList_some, Option.toList_none, List.cons_append, List.nil_append, gcat_nil, gcat_cons, cat_int, cat_ref, cat_null, cat_ret, cat_long, grc_ref, narZ0, narZ1, true_and, and_true, decide_true, Nat.reduceAdd, Nat.reduceLeDiff, if_true, if_false, eq_self, gfld_in, gobj_in, garr_in, garq_in, glen_in, gisO_in, ex_some, List.getElem?_cons_succ, List.getElem?_cons_zero, List.length_cons, List.length_nil, List.set_cons_succ, List.set_cons_zero, Nat.reduceLT, va_up_eq, va_up_nl, nI_or, nI_1]
          exact ih (t + 1) _ _ (by omega) (or_lt (i := 6) hp h2) (fun h => h1 ⟨q2, h⟩) (fun h => h0 (fun z => h z.2))
        · rw [if_neg (fun z => z q2)]
          simp only [eX1_apartBy_40, eX1_apartBy_41, Option.toList_some, Option.toList_none, List.cons_append, List.nil_append, gcat_nil, gcat_cons, cat_int, cat_ref, cat_null, cat_ret, cat_long, grc_ref, narZ0, narZ1, true_and, and_true, decide_true, Nat.reduceAdd, Nat.reduceLeDiff, if_true, if_false, eq_self, gfld_in, gobj_in, garr_in, garq_in, glen_in, gisO_in, ex_some, List.getElem?_cons_succ, List.getElem?_cons_zero, List.length_cons, List.length_nil, List.set_cons_succ, List.set_cons_zero, Nat.reduceLT, va_up_eq, va_up_nl]
          exact h0 (fun z => q2 z.1)
      · rw [if_neg q] at h1 h0 ⊢
        rw [nI_0]
        have e0 : nI p ||| 0 = nI p := by rw [← nI_0, nI_or]; simp
        simp only [eX1_apartBy_42, eX1_apartBy_43, eX1_apartBy_45, eX1_apartBy_46, eX1_apartBy_46b, eX1_apartBy_46c, eX1_apartBy_46d, eX1_apartBy_47, eX1_apartBy_47b, eX1_apartBy_47c, eX1_apartBy_47d, eX1_apartBy_50, Option.toList_some, Option.toList_none, List.cons_append, List.nil_append, gcat_nil, gcat_cons, cat_int, cat_ref, cat_null, cat_ret, cat_long, grc_ref, narZ0, narZ1, true_and, and_true, decide_true, Nat.reduceAdd, Nat.reduceLeDiff, if_true, if_false, eq_self, gfld_in, gobj_in, garr_in, garq_in, glen_in, gisO_in, ex_some, List.getElem?_cons_succ, List.getElem?_cons_zero, List.length_cons, List.length_nil, List.set_cons_succ, List.set_cons_zero, Nat.reduceLT, va_up_eq, va_up_nl, e0, nI_1]
        exact ih (t + 1) _ _ (by omega) hp h1 h0
  simp only [eX1_apartBy_0, eX1_apartBy_1, eX1_apartBy_1b, eX1_apartBy_1c, eX1_apartBy_1d, eX1_apartBy_2, eX1_apartBy_3, eX1_apartBy_3b, eX1_apartBy_3c, eX1_apartBy_3d, Option.toList_some, Option.toList_none, List.cons_append, List.nil_append, gcat_nil, gcat_cons, cat_int, cat_ref, cat_null, cat_ret, cat_long, grc_ref, narZ0, narZ1, true_and, and_true, decide_true, Nat.reduceAdd, Nat.reduceLeDiff, if_true, if_false, eq_self, gfld_in, gobj_in, garr_in, garq_in, glen_in, gisO_in, ex_some, List.getElem?_cons_succ, List.getElem?_cons_zero, List.length_cons, List.length_nil, List.set_cons_succ, List.set_cons_zero, Nat.reduceLT, va_up_eq, va_up_nl]
  exact loop N 0 0 _ (by omega) (by omega) h1 h0
/-- the search of the fewest, its steps told by a relation -/
def pfw (A : Nat → Prop) : Nat → Nat → Int32 → Int32 → Prop
  | _, 0, f, r => r = f
  | s, D + 1, f, r => ((f = -9 ∨ mon (nI s) < mon f) ∧ A s ∧ pfw A (s + 1) D (nI s) r) ∨ (¬ ((f = -9 ∨ mon (nI s) < mon f) ∧ A s) ∧ pfw A (s + 1) D f r)
theorem c_fewest (hT : isTr w 1 kr ts co (nI K) (nI N) rm jm) (hK : K ≤ 6) (hN : N ≤ 6) (hW : ∀ c, c < K → kr (5 * c + 3) = nI (We c) ∧ We c < 10) {vc : Int32} (hQ : ∀ r vk vs vc, pfw (fun s => pab (pvs (pst kr ts N) We 0 K) s 0 N 0) 0 (2 ^ N) (-9) r → Q (some (.int r)) n k (pW w vk vs vc rp nt)) : gEv (gT X) 16 0 [.ref 15, .ref 1, .null, .null, .null] [] n k (pW w vk vs vc rp nt) Q := by
  have h64 := gp2_64 hN
  simp only [eX1_fewest_0, eX1_fewest_1, eX1_fewest_2, Option.toList_some, Option.toList_none, List.cons_append, List.nil_append, gcat_nil, gcat_cons, cat_int, cat_ref, cat_null, cat_ret, cat_long, grc_ref, narZ0, narZ1, true_and, and_true, decide_true, Nat.reduceAdd, Nat.reduceLeDiff, if_true, if_false, eq_self, gfld_in, gobj_in, garr_in, garq_in, glen_in, gisO_in, ex_some, List.getElem?_cons_succ, List.getElem?_cons_zero, List.length_cons, List.length_nil, List.set_cons_succ, List.set_cons_zero, Nat.reduceLT, va_up_eq, va_up_nl, pW_15]
  refine c_study hT hK hN hW ?_
  intro vk vs hV
  generalize pvs (pst kr ts N) We 0 K = V at *
  have loop : ∀ (D s : Nat) (f : Int32) (v4 : Value), s + D = 2 ^ N → (f = -9 ∨ ∃ z, z < 64 ∧ f = nI z) → (∀ r vk vs vc, pfw (fun s => pab V s 0 N 0) s D f r → Q (some (.int r)) n k (pW w vk vs vc rp nt)) → gEv (gT X) 16 10 [.ref 15, .ref 1, .int f, .int (nI s), v4] [] n k (pW w vk vs (nI V.length) rp nt) Q := by
    intro D
    induction D with
    | zero =>
      intro s f v4 hs hf hq
      have hc : nI (2 ^ N) ≤ nI s := nI_le (by omega) (by omega)
      rw [eX1_fewest_10]
      simp only [eX1_fewest_11, eX1_fewest_12, eX1_fewest_13, eX1_fewest_16, eX1_fewest_17, eX1_fewest_66, eX1_fewest_67, Option.toList_some, Option.toList_none, List.cons_append, List.nil_append, gcat_nil, gcat_cons, cat_int, cat_ref, cat_null, cat_ret, cat_long, grc_ref, narZ0, narZ1, true_and, and_true, decide_true, Nat.reduceAdd, Nat.reduceLeDiff, if_true, if_false, eq_self, gfld_in, gobj_in, garr_in, garq_in, glen_in, gisO_in, ex_some, List.getElem?_cons_succ, List.getElem?_cons_zero, List.length_cons, List.length_nil, List.set_cons_succ, List.set_cons_zero, Nat.reduceLT, va_up_eq, va_up_nl, pW_1 hT, gp2 hN, hc]
      exact hq f _ _ _ rfl
    | succ D ih =>
      intro s f v4 hs hf hq
      have hc : ¬ nI (2 ^ N) ≤ nI s := nI_ge (by omega) (by omega)
      have h10 : ¬ (1 : Int32) = 0 := by decide
      have js := jbc_ok s (by omega)
      have skip : ∀ (v4 : Int32), ¬ ((f = -9 ∨ mon (nI s) < mon f) ∧ pab V s 0 N 0) → gEv (gT X) 16 60 [.ref 15, .ref 1, .int f, .int (nI s), .int v4] [] n k (pW w vk vs (nI V.length) rp nt) Q := by
        intro v4 h
        simp only [eX1_fewest_60, eX1_fewest_60b, eX1_fewest_60c, eX1_fewest_60d, eX1_fewest_63, Option.toList_some, Option.toList_none, List.cons_append, List.nil_append, gcat_nil, gcat_cons, cat_int, cat_ref, cat_null, cat_ret, cat_long, grc_ref, narZ0, narZ1, true_and, and_true, decide_true, Nat.reduceAdd, Nat.reduceLeDiff, if_true, if_false, eq_self, gfld_in, gobj_in, garr_in, garq_in, glen_in, gisO_in, ex_some, List.getElem?_cons_succ, List.getElem?_cons_zero, List.length_cons, List.length_nil, List.set_cons_succ, List.set_cons_zero, Nat.reduceLT, va_up_eq, va_up_nl, nI_1]
        exact ih (s + 1) f _ (by omega) hf (fun r vk vs vc hr => hq r vk vs vc (Or.inr ⟨h, hr⟩))
      have look : (f = -9 ∨ mon (nI s) < mon f) → gEv (gT X) 16 49 [.ref 15, .ref 1, .int f, .int (nI s), .int 1] [] n k (pW w vk vs (nI V.length) rp nt) Q := by
        intro hfw
        simp only [eX1_fewest_49, eX1_fewest_50, eX1_fewest_51, eX1_fewest_52, Option.toList_some, Option.toList_none, List.cons_append, List.nil_append, gcat_nil, gcat_cons, cat_int, cat_ref, cat_null, cat_ret, cat_long, grc_ref, narZ0, narZ1, true_and, and_true, decide_true, Nat.reduceAdd, Nat.reduceLeDiff, if_true, if_false, eq_self, gfld_in, gobj_in, garr_in, garq_in, glen_in, gisO_in, ex_some, List.getElem?_cons_succ, List.getElem?_cons_zero, List.length_cons, List.length_nil, List.set_cons_succ, List.set_cons_zero, Nat.reduceLT, va_up_eq, va_up_nl, pW_15]
        refine c_apartBy hV hT hN (by omega) ?_ ?_
        · intro h
          simp only [eX1_fewest_55, eX1_fewest_58, eX1_fewest_59, eX1_fewest_59b, eX1_fewest_59c, eX1_fewest_59d, eX1_fewest_60, eX1_fewest_60b, eX1_fewest_60c, eX1_fewest_60d, eX1_fewest_63, Option.toList_some, Option.toList_none, List.cons_append, List.nil_append, gcat_nil, gcat_cons, cat_int, cat_ref, cat_null, cat_ret, cat_long, grc_ref, narZ0, narZ1, true_and, and_true, decide_true, Nat.reduceAdd, Nat.reduceLeDiff, if_true, if_false, eq_self, gfld_in, gobj_in, garr_in, garq_in, glen_in, gisO_in, ex_some, List.getElem?_cons_succ, List.getElem?_cons_zero, List.length_cons, List.length_nil, List.set_cons_succ, List.set_cons_zero, Nat.reduceLT, va_up_eq, va_up_nl, h10, nI_1]
          exact ih (s + 1) (nI s) _ (by omega) (Or.inr ⟨s, by omega, rfl⟩) (fun r vk vs vc hr => hq r vk vs vc (Or.inl ⟨hfw, h, hr⟩))
        · intro h
          simp only [eX1_fewest_55, Option.toList_some, Option.toList_none, List.cons_append, List.nil_append, gcat_nil, gcat_cons, cat_int, cat_ref, cat_null, cat_ret, cat_long, grc_ref, narZ0, narZ1, true_and, and_true, decide_true, Nat.reduceAdd, Nat.reduceLeDiff, if_true, if_false, eq_self, gfld_in, gobj_in, garr_in, garq_in, glen_in, gisO_in, ex_some, List.getElem?_cons_succ, List.getElem?_cons_zero, List.length_cons, List.length_nil, List.set_cons_succ, List.set_cons_zero, Nat.reduceLT, va_up_eq, va_up_nl]
          exact skip 1 (fun z => h z.2)
      rw [eX1_fewest_10]
      simp only [eX1_fewest_11, eX1_fewest_12, eX1_fewest_13, eX1_fewest_16, eX1_fewest_17, eX1_fewest_20, eX1_fewest_21, eX1_fewest_23, Option.toList_some, Option.toList_none, List.cons_append, List.nil_append, gcat_nil, gcat_cons, cat_int, cat_ref, cat_null, cat_ret, cat_long, grc_ref, narZ0, narZ1, true_and, and_true, decide_true, Nat.reduceAdd, Nat.reduceLeDiff, if_true, if_false, eq_self, gfld_in, gobj_in, garr_in, garq_in, glen_in, gisO_in, ex_some, List.getElem?_cons_succ, List.getElem?_cons_zero, List.length_cons, List.length_nil, List.set_cons_succ, List.set_cons_zero, Nat.reduceLT, va_up_eq, va_up_nl, pW_1 hT, gp2 hN, hc]
      by_cases q : f = -9
      · rw [if_pos q]
        simp only [eX1_fewest_37, eX1_fewest_38, eX1_fewest_42, eX1_fewest_42b, eX1_fewest_42c, eX1_fewest_42d, eX1_fewest_44, eX1_fewest_46, Option.toList_some, Option.toList_none, List.cons_append, List.nil_append, gcat_nil, gcat_cons, cat_int, cat_ref, cat_null, cat_ret, cat_long, grc_ref, narZ0, narZ1, true_and, and_true, decide_true, Nat.reduceAdd, Nat.reduceLeDiff, if_true, if_false, eq_self, gfld_in, gobj_in, garr_in, garq_in, glen_in, gisO_in, ex_some, List.getElem?_cons_succ, List.getElem?_cons_zero, List.length_cons, List.length_nil, List.set_cons_succ, List.set_cons_zero, Nat.reduceLT, va_up_eq, va_up_nl, h10]
        exact look (Or.inl q)
      · rw [if_neg q]
        obtain ⟨z, hz, hfz⟩ := hf.resolve_left q
        have jf : jbc f = mon f := by rw [hfz]; exact jbc_ok z hz
        simp only [eX1_fewest_26, eX1_fewest_27, eX1_fewest_30, eX1_fewest_31, eX1_fewest_34, Option.toList_some, Option.toList_none, List.cons_append, List.nil_append, gcat_nil, gcat_cons, cat_int, cat_ref, cat_null, cat_ret, cat_long, grc_ref, narZ0, narZ1, true_and, and_true, decide_true, Nat.reduceAdd, Nat.reduceLeDiff, if_true, if_false, eq_self, gfld_in, gobj_in, garr_in, garq_in, glen_in, gisO_in, ex_some, List.getElem?_cons_succ, List.getElem?_cons_zero, List.length_cons, List.length_nil, List.set_cons_succ, List.set_cons_zero, Nat.reduceLT, va_up_eq, va_up_nl, cJ_bitCount, js, jf]
        by_cases q2 : mon f ≤ mon (nI s)
        · rw [if_pos q2]
          simp only [eX1_fewest_41, eX1_fewest_42, eX1_fewest_42b, eX1_fewest_42c, eX1_fewest_42d, eX1_fewest_44, eX1_fewest_46, Option.toList_some, Option.toList_none, List.cons_append, List.nil_append, gcat_nil, gcat_cons, cat_int, cat_ref, cat_null, cat_ret, cat_long, grc_ref, narZ0, narZ1, true_and, and_true, decide_true, Nat.reduceAdd, Nat.reduceLeDiff, if_true, if_false, eq_self, gfld_in, gobj_in, garr_in, garq_in, glen_in, gisO_in, ex_some, List.getElem?_cons_succ, List.getElem?_cons_zero, List.length_cons, List.length_nil, List.set_cons_succ, List.set_cons_zero, Nat.reduceLT, va_up_eq, va_up_nl]
          exact skip 0 (fun z => z.1.elim q (Int32.not_lt.mpr q2))
        · rw [if_neg q2]
          simp only [eX1_fewest_37, eX1_fewest_38, eX1_fewest_42, eX1_fewest_42b, eX1_fewest_42c, eX1_fewest_42d, eX1_fewest_44, eX1_fewest_46, Option.toList_some, Option.toList_none, List.cons_append, List.nil_append, gcat_nil, gcat_cons, cat_int, cat_ref, cat_null, cat_ret, cat_long, grc_ref, narZ0, narZ1, true_and, and_true, decide_true, Nat.reduceAdd, Nat.reduceLeDiff, if_true, if_false, eq_self, gfld_in, gobj_in, garr_in, garq_in, glen_in, gisO_in, ex_some, List.getElem?_cons_succ, List.getElem?_cons_zero, List.length_cons, List.length_nil, List.set_cons_succ, List.set_cons_zero, Nat.reduceLT, va_up_eq, va_up_nl, h10]
          exact look (Or.inr (Int32.not_le.mp q2))
  simp only [eX1_fewest_5, eX1_fewest_7, eX1_fewest_7b, eX1_fewest_7c, eX1_fewest_7d, eX1_fewest_8, eX1_fewest_9, eX1_fewest_9b, eX1_fewest_9c, eX1_fewest_9d, Option.toList_some, Option.toList_none, List.cons_append, List.nil_append, gcat_nil, gcat_cons, cat_int, cat_ref, cat_null, cat_ret, cat_long, grc_ref, narZ0, narZ1, true_and, and_true, decide_true, Nat.reduceAdd, Nat.reduceLeDiff, if_true, if_false, eq_self, gfld_in, gobj_in, garr_in, garq_in, glen_in, gisO_in, ex_some, List.getElem?_cons_succ, List.getElem?_cons_zero, List.length_cons, List.length_nil, List.set_cons_succ, List.set_cons_zero, Nat.reduceLT, va_up_eq, va_up_nl]
  exact loop (2 ^ N) 0 (-9) _ (by omega) (Or.inl rfl) hQ
end PE
