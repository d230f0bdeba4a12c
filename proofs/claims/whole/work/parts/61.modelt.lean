/-! THE TEXT, as both read it: letters as numbers -/
abbrev tLet (tv : Nat → Nat) (j : Nat) : Prop := 97 ≤ tv j ∧ tv j ≤ 122
abbrev tFig (tv : Nat → Nat) (j : Nat) : Prop := 48 ≤ tv j ∧ tv j ≤ 57
def tSk (tv : Nat → Nat) (l p : Nat) : Nat := gfst (fun j => ¬ tv j = 32) p (l - p)
def tWe (tv : Nat → Nat) (l s : Nat) : Nat := gfst (fun j => ¬ tLet tv j) s (l - s)
def tFe (tv : Nat → Nat) (l s : Nat) : Nat := gfst (fun j => ¬ tFig tv j) s (l - s)
def tEn (tv : Nat → Nat) (l s : Nat) : Nat := if l ≤ s then s else if tLet tv s then tWe tv l s else if tFig tv s then tFe tv l s else s + 1
def tWv (tv : Nat → Nat) : Nat → Nat → Nat
  | _, 0 => 0
  | s, D + 1 => (tv s - 96) + 32 * tWv tv (s + 1) D
def tW9 (tv : Nat → Nat) (s e : Nat) : Nat := if e - s < 9 then tWv tv s (e - s) else 0
def tWk (W : Nat) : Nat := if W = 468451 then 4 else if W = 176616 then 5 else if W = 5637235 then 6 else if W = 13618 then 7 else if W = 441842 then 8 else 3
def tVf (tv : Nat → Nat) : Nat → Nat → Nat → Nat := gfor (fun j v => if v ≤ 99 then 10 * v + tv j - 48 else v)
def tK (tv : Nat → Nat) (l s : Nat) : Nat := if l ≤ s then 0 else if tLet tv s then tWk (tW9 tv s (tWe tv l s)) else if tFig tv s then (if s + 2 < tFe tv l s ∨ (tv s = 48 ∧ s + 1 < tFe tv l s) then 3 else 2) else if tv s = 59 then 1 else 3
def tTok (q : Nat) : Int32 := if q = 0 then 1000 else if q = 1 then 59 else if q = 2 then 1002 else if q = 3 then 1001 else if q = 4 then 1003 else if q = 5 then 1004 else if q = 6 then 1005 else if q = 7 then 1006 else 1007
def tVa (va : Int32) (tv : Nat → Nat) (l s : Nat) : Int32 := if l ≤ s then va else if tLet tv s then va else if tFig tv s then nI (tVf tv s (tFe tv l s - s) 0) else va
theorem gfst_le (p : Nat → Prop) [DecidablePred p] : ∀ (D j : Nat), j ≤ gfst p j D ∧ gfst p j D ≤ j + D := by
  intro D
  induction D with
  | zero => intro j; rw [gfst]; omega
  | succ D ih =>
    intro j
    rw [gfst]
    by_cases q : p j
    · rw [if_pos q]; omega
    · rw [if_neg q]; have := ih (j + 1); omega
/-- what stands ahead of the first one -/
theorem gfst_ah (p : Nat → Prop) [DecidablePred p] : ∀ (D j i : Nat), j ≤ i → i < gfst p j D → ¬ p i := by
  intro D
  induction D with
  | zero => intro j i h1 h2; rw [gfst] at h2; omega
  | succ D ih =>
    intro j i h1 h2
    rw [gfst] at h2
    by_cases q : p j
    · rw [if_pos q] at h2; omega
    · rw [if_neg q] at h2
      by_cases q2 : i = j
      · rw [q2]; exact q
      · exact ih (j + 1) i (by omega) h2
theorem tWv_lt (tv : Nat → Nat) : ∀ (D s : Nat), (∀ j, s ≤ j → j < s + D → tv j ≤ 122) → tWv tv s D < 32 ^ D := by
  intro D
  induction D with
  | zero => intro s _; rw [tWv]; decide
  | succ D ih =>
    intro s h
    rw [tWv]
    have h1 := ih (s + 1) (fun j h1 h2 => h j (by omega) (by omega))
    have h2 := h s (by omega) (by omega)
    rw [Nat.pow_succ]
    omega
theorem lg_0 {x y : Int64} : lg_cmp x y = 0 ↔ x = y := by
  unfold lg_cmp
  by_cases h1 : x > y
  · rw [if_pos h1]
    constructor
    · intro z; cases z
    · intro z; subst z; exact (Int64.lt_irrefl h1).elim
  · rw [if_neg h1]
    by_cases h2 : x = y
    · rw [if_pos h2]; simp [h2]
    · rw [if_neg h2]
      constructor
      · intro z; exact absurd z (by decide)
      · intro z; exact absurd z h2
theorem l64_eq {a b : Nat} (ha : a < 2 ^ 62) (hb : b < 2 ^ 62) : Int64.ofNat a = Int64.ofNat b ↔ a = b := by
  constructor
  · intro h
    have := congrArg Int64.toInt h
    rw [Int64.toInt_ofNat_of_lt (by omega), Int64.toInt_ofNat_of_lt (by omega)] at this
    omega
  · intro h; rw [h]
theorem l64_of : ∀ t, t < 256 → (nI t).toInt64 = Int64.ofNat t := by decide +kernel
theorem l64_step {W t : Nat} (h1 : 97 ≤ t) (h2 : t < 256) : 32 * Int64.ofNat W + (nI t).toInt64 - 97 + 1 = Int64.ofNat ((t - 96) + 32 * W) := by
  rw [l64_of t h2]
  obtain ⟨u, rfl⟩ : ∃ u, t = u + 97 := ⟨t - 97, by omega⟩
  rw [show u + 97 - 96 + 32 * W = 32 * W + u + 1 by omega]
  rw [Int64.ofNat_add, Int64.ofNat_add, Int64.ofNat_add, Int64.ofNat_mul, ← Int64.add_assoc]
  rw [show (97 : Int64) = Int64.ofNat 97 from rfl, Int64.add_sub_cancel]
  rfl
section MT
variable {X : gX} {n k : Nat} {w : gH} {Q : Option Value → Nat → Nat → gH → Prop} {o : Nat} {nw rd ps im ik tx fa al be fo io : Nat → Int32} {de le pz tk ta va se it ln fz fb fm : Int32} {l : Nat} {tv : Nat → Nat}
def gtx (tx : Nat → Int32) (tv : Nat → Nat) (l : Nat) : Prop := l ≤ 150 ∧ ∀ j, j < l → tx j = nI (tv j) ∧ tv j < 256
theorem nI_in2 {t a b : Nat} (ht : t < 256) (ha : a < 256) (hb : b < 256) : (nI a ≤ nI t ∧ nI t ≤ nI b) ↔ (a ≤ t ∧ t ≤ b) := by
  constructor
  · rintro ⟨h1, h2⟩
    constructor
    · by_cases q : a ≤ t
      · exact q
      · exact absurd h1 (nI_ge (by omega) (by omega))
    · by_cases q : t ≤ b
      · exact q
      · exact absurd h2 (nI_ge (by omega) (by omega))
  · rintro ⟨h1, h2⟩
    exact ⟨nI_le h1 (by omega), nI_le h2 (by omega)⟩
theorem c6_isLetter (ht : gtx tx tv l) {j : Nat} (hj : j ≤ l) : gEv (gT X) 122 0 [.ref o] [] n k (mW w o nw rd ps de im ik tx (nI l) (nI j) tk ta va fa se it al ln fz fb be fo fm io) Q ↔ Q (some (.int (gb (j < l ∧ tLet tv j)))) n k (mW w o nw rd ps de im ik tx (nI l) (nI j) tk ta va fa se it al ln fz fb be fo fm io) := by
  obtain ⟨hl, ht⟩ := ht
  by_cases q : j < l
  · have hc : ¬ nI l ≤ nI j := nI_ge q (by omega)
    obtain ⟨h1, h2⟩ := ht j q
    have v : vp_in (nI j) 150 := vp_in_nI (by omega) (by omega)
    have hi : ((97 : Int32) ≤ nI (tv j) ∧ nI (tv j) ≤ 122) ↔ tLet tv j := nI_in2 (a := 97) (b := 122) h2 (by omega) (by omega)
    simp only [eX6_isLetter_0, eX6_isLetter_1, eX6_isLetter_4, eX6_isLetter_5, eX6_isLetter_8, eX6_isLetter_11, eX6_isLetter_12, eX6_isLetter_15, eX6_isLetter_16, eX6_isLetter_19, eX6_isLetter_20, eX6_isLetter_22, eX6_isLetter_24, eX6_isLetter_27, eX6_isLetter_30, eX6_isLetter_31, eX6_isLetter_34, eX6_isLetter_35, Option.toList_some, Option.toList_none, List.cons_append, List.nil_append, gcat_nil, gcat_cons, cat_int, cat_ref, cat_null, cat_ret, cat_long, grc_ref, narZ0, narZ1, true_and, and_true, decide_true, Nat.reduceAdd, Nat.reduceLeDiff, if_true, if_false, eq_self, gfld_in, gobj_in, garr_in, garq_in, glen_in, gisO_in, ex_some, List.getElem?_cons_succ, List.getElem?_cons_zero, List.length_cons, List.length_nil, List.set_cons_succ, List.set_cons_zero, Nat.reduceLT, va_up_eq, va_up_nl, mW_0, mW_6, hc, v, nI_clamp (show j < 2 ^ 31 by omega), h1, c6_in, gb_0, hi]
    by_cases q2 : tLet tv j
    · rw [if_neg (fun z => z q2), gb_t ⟨q, q2⟩]
    · rw [if_pos q2, gb_f (fun z => q2 z.2)]
  · have hc : nI l ≤ nI j := nI_le (by omega) (by omega)
    simp only [eX6_isLetter_0, eX6_isLetter_1, eX6_isLetter_4, eX6_isLetter_5, eX6_isLetter_8, eX6_isLetter_11, eX6_isLetter_12, eX6_isLetter_15, eX6_isLetter_16, eX6_isLetter_19, eX6_isLetter_20, eX6_isLetter_22, eX6_isLetter_24, eX6_isLetter_27, eX6_isLetter_30, eX6_isLetter_31, eX6_isLetter_34, eX6_isLetter_35, Option.toList_some, Option.toList_none, List.cons_append, List.nil_append, gcat_nil, gcat_cons, cat_int, cat_ref, cat_null, cat_ret, cat_long, grc_ref, narZ0, narZ1, true_and, and_true, decide_true, Nat.reduceAdd, Nat.reduceLeDiff, if_true, if_false, eq_self, gfld_in, gobj_in, garr_in, garq_in, glen_in, gisO_in, ex_some, List.getElem?_cons_succ, List.getElem?_cons_zero, List.length_cons, List.length_nil, List.set_cons_succ, List.set_cons_zero, Nat.reduceLT, va_up_eq, va_up_nl, mW_0, hc]
    rw [gb_f (fun z => q z.1)]
theorem c6_isFigure (ht : gtx tx tv l) {j : Nat} (hj : j ≤ l) : gEv (gT X) 123 0 [.ref o] [] n k (mW w o nw rd ps de im ik tx (nI l) (nI j) tk ta va fa se it al ln fz fb be fo fm io) Q ↔ Q (some (.int (gb (j < l ∧ tFig tv j)))) n k (mW w o nw rd ps de im ik tx (nI l) (nI j) tk ta va fa se it al ln fz fb be fo fm io) := by
  obtain ⟨hl, ht⟩ := ht
  by_cases q : j < l
  · have hc : ¬ nI l ≤ nI j := nI_ge q (by omega)
    obtain ⟨h1, h2⟩ := ht j q
    have v : vp_in (nI j) 150 := vp_in_nI (by omega) (by omega)
    have hi : ((48 : Int32) ≤ nI (tv j) ∧ nI (tv j) ≤ 57) ↔ tFig tv j := nI_in2 (a := 48) (b := 57) h2 (by omega) (by omega)
    simp only [eX6_isFigure_0, eX6_isFigure_1, eX6_isFigure_4, eX6_isFigure_5, eX6_isFigure_8, eX6_isFigure_11, eX6_isFigure_12, eX6_isFigure_15, eX6_isFigure_16, eX6_isFigure_19, eX6_isFigure_20, eX6_isFigure_22, eX6_isFigure_24, eX6_isFigure_27, eX6_isFigure_30, eX6_isFigure_31, eX6_isFigure_34, eX6_isFigure_35, Option.toList_some, Option.toList_none, List.cons_append, List.nil_append, gcat_nil, gcat_cons, cat_int, cat_ref, cat_null, cat_ret, cat_long, grc_ref, narZ0, narZ1, true_and, and_true, decide_true, Nat.reduceAdd, Nat.reduceLeDiff, if_true, if_false, eq_self, gfld_in, gobj_in, garr_in, garq_in, glen_in, gisO_in, ex_some, List.getElem?_cons_succ, List.getElem?_cons_zero, List.length_cons, List.length_nil, List.set_cons_succ, List.set_cons_zero, Nat.reduceLT, va_up_eq, va_up_nl, mW_0, mW_6, hc, v, nI_clamp (show j < 2 ^ 31 by omega), h1, c6_in, gb_0, hi]
    by_cases q2 : tFig tv j
    · rw [if_neg (fun z => z q2), gb_t ⟨q, q2⟩]
    · rw [if_pos q2, gb_f (fun z => q2 z.2)]
  · have hc : nI l ≤ nI j := nI_le (by omega) (by omega)
    simp only [eX6_isFigure_0, eX6_isFigure_1, eX6_isFigure_4, eX6_isFigure_5, eX6_isFigure_8, eX6_isFigure_11, eX6_isFigure_12, eX6_isFigure_15, eX6_isFigure_16, eX6_isFigure_19, eX6_isFigure_20, eX6_isFigure_22, eX6_isFigure_24, eX6_isFigure_27, eX6_isFigure_30, eX6_isFigure_31, eX6_isFigure_34, eX6_isFigure_35, Option.toList_some, Option.toList_none, List.cons_append, List.nil_append, gcat_nil, gcat_cons, cat_int, cat_ref, cat_null, cat_ret, cat_long, grc_ref, narZ0, narZ1, true_and, and_true, decide_true, Nat.reduceAdd, Nat.reduceLeDiff, if_true, if_false, eq_self, gfld_in, gobj_in, garr_in, garq_in, glen_in, gisO_in, ex_some, List.getElem?_cons_succ, List.getElem?_cons_zero, List.length_cons, List.length_nil, List.set_cons_succ, List.set_cons_zero, Nat.reduceLT, va_up_eq, va_up_nl, mW_0, hc]
    rw [gb_f (fun z => q z.1)]
theorem c6_wordTo (ht : gtx tx tv l) {s e : Nat} (hse : s ≤ e) (he : e ≤ l) (hw : ∀ j, s ≤ j → j < e → tLet tv j) : gEv (gT X) 124 0 [.ref o, .null, .null, .null] [] n k (mW w o nw rd ps de im ik tx le (nI e) tk (nI s) va fa se it al ln fz fb be fo fm io) Q ↔ Q (some (.int (tTok (tWk (tW9 tv s e))))) n k (mW w o nw rd ps de im ik tx le (nI e) tk (nI s) va fa se it al ln fz fb be fo fm io) := by
  obtain ⟨hl, ht⟩ := ht
  have es : nI e - nI s = nI (e - s) := by
    rw [show e = e - s + s by omega, ← nI_add]
    simp
  have tail : ∀ (W : Nat) (x3 : Int32), W < 2 ^ 62 → (gEv (gT X) 124 57 [.ref o, .long (Int64.ofNat W), .null, .int x3] [] n k (mW w o nw rd ps de im ik tx le (nI e) tk (nI s) va fa se it al ln fz fb be fo fm io) Q ↔ Q (some (.int (tTok (tWk W)))) n k (mW w o nw rd ps de im ik tx le (nI e) tk (nI s) va fa se it al ln fz fb be fo fm io)) := by
    intro W x3 hW
    have c1 : (Int64.ofNat W = 468451) ↔ W = 468451 := l64_eq (b := 468451) hW (by omega)
    have c2 : (Int64.ofNat W = 176616) ↔ W = 176616 := l64_eq (b := 176616) hW (by omega)
    have c3 : (Int64.ofNat W = 5637235) ↔ W = 5637235 := l64_eq (b := 5637235) hW (by omega)
    have c4 : (Int64.ofNat W = 13618) ↔ W = 13618 := l64_eq (b := 13618) hW (by omega)
    have c5 : (Int64.ofNat W = 441842) ↔ W = 441842 := l64_eq (b := 441842) hW (by omega)
    simp only [eX6_wordTo_57, eX6_wordTo_58, eX6_wordTo_61, eX6_wordTo_62, eX6_wordTo_65, eX6_wordTo_68, eX6_wordTo_71, eX6_wordTo_72, eX6_wordTo_75, eX6_wordTo_76, eX6_wordTo_79, eX6_wordTo_82, eX6_wordTo_85, eX6_wordTo_86, eX6_wordTo_89, eX6_wordTo_90, eX6_wordTo_93, eX6_wordTo_96, eX6_wordTo_99, eX6_wordTo_100, eX6_wordTo_103, eX6_wordTo_104, eX6_wordTo_107, eX6_wordTo_110, eX6_wordTo_113, eX6_wordTo_114, eX6_wordTo_117, eX6_wordTo_118, eX6_wordTo_121, eX6_wordTo_124, eX6_wordTo_127, eX6_wordTo_130, Option.toList_some, Option.toList_none, List.cons_append, List.nil_append, gcat_nil, gcat_cons, cat_int, cat_ref, cat_null, cat_ret, cat_long, grc_ref, narZ0, narZ1, true_and, and_true, decide_true, Nat.reduceAdd, Nat.reduceLeDiff, if_true, if_false, eq_self, gfld_in, gobj_in, garr_in, garq_in, glen_in, gisO_in, ex_some, List.getElem?_cons_succ, List.getElem?_cons_zero, List.length_cons, List.length_nil, List.set_cons_succ, List.set_cons_zero, Nat.reduceLT, va_up_eq, va_up_nl, lg_0, c1, c2, c3, c4, c5]
    unfold tWk
    by_cases q1 : W = 468451
    · simp only [q1, not_true_eq_false, if_true, if_false]; rfl
    · by_cases q2 : W = 176616
      · simp only [q1, q2, not_true_eq_false, not_false_eq_true, if_true, if_false]; rfl
      · by_cases q3 : W = 5637235
        · simp only [q1, q2, q3, not_true_eq_false, not_false_eq_true, if_true, if_false]; rfl
        · by_cases q4 : W = 13618
          · simp only [q1, q2, q3, q4, not_true_eq_false, not_false_eq_true, if_true, if_false]; rfl
          · by_cases q5 : W = 441842
            · simp only [q1, q2, q3, q4, q5, not_true_eq_false, not_false_eq_true, if_true, if_false]; rfl
            · simp only [q1, q2, q3, q4, q5, not_true_eq_false, not_false_eq_true, if_true, if_false]; rfl
  have hlt : ∀ D, s ≤ e - D → D ≤ e → D < 9 → tWv tv (e - D) D < 2 ^ 62 := by
    intro D h1 h2 h9
    have := tWv_lt tv D (e - D) (fun j h3 h4 => (hw j (by omega) (by omega)).2)
    have h3 : 32 ^ D ≤ 32 ^ 9 := Nat.pow_le_pow_right (by omega) (by omega)
    have h4 : (32 : Nat) ^ 9 < 2 ^ 62 := by decide
    omega
  by_cases q9 : e - s < 9
  · have hc9 : ¬ 9 ≤ nI (e - s) := nI_ge (b := 9) q9 (by omega)
    have loop : ∀ (m : Nat), s ≤ m → m ≤ e → (gEv (gT X) 124 9 [.ref o, .long (Int64.ofNat (tWv tv m (e - m))), .null, .int (nI m - 1)] [] n k (mW w o nw rd ps de im ik tx le (nI e) tk (nI s) va fa se it al ln fz fb be fo fm io) Q ↔ Q (some (.int (tTok (tWk (tWv tv s (e - s)))))) n k (mW w o nw rd ps de im ik tx le (nI e) tk (nI s) va fa se it al ln fz fb be fo fm io)) := by
      intro m
      induction m with
      | zero =>
        intro h1 h2
        have hs : s = 0 := by omega
        subst hs
        have hc : nI 0 - 1 < nI 0 := by decide
        have hb := hlt e (by omega) (by omega) (by omega)
        rw [Nat.sub_self] at hb
        rw [eX6_wordTo_9]
        simp only [eX6_wordTo_10, eX6_wordTo_11, eX6_wordTo_14, Option.toList_some, Option.toList_none, List.cons_append, List.nil_append, gcat_nil, gcat_cons, cat_int, cat_ref, cat_null, cat_ret, cat_long, grc_ref, narZ0, narZ1, true_and, and_true, decide_true, Nat.reduceAdd, Nat.reduceLeDiff, if_true, if_false, eq_self, gfld_in, gobj_in, garr_in, garq_in, glen_in, gisO_in, ex_some, List.getElem?_cons_succ, List.getElem?_cons_zero, List.length_cons, List.length_nil, List.set_cons_succ, List.set_cons_zero, Nat.reduceLT, va_up_eq, va_up_nl, mW_0, hc]
        exact tail _ _ hb
      | succ m ih =>
        intro h1 h2
        have e0 : nI (m + 1) - 1 = nI m := nI_pred m
        rw [e0, eX6_wordTo_9]
        by_cases q : s = m + 1
        · have hc : nI m < nI s := nI_lt (by omega) (by omega)
          have hb := hlt (e - s) (by omega) (by omega) q9
          rw [show e - (e - s) = s by omega] at hb
          rw [← q]
          simp only [eX6_wordTo_10, eX6_wordTo_11, eX6_wordTo_14, Option.toList_some, Option.toList_none, List.cons_append, List.nil_append, gcat_nil, gcat_cons, cat_int, cat_ref, cat_null, cat_ret, cat_long, grc_ref, narZ0, narZ1, true_and, and_true, decide_true, Nat.reduceAdd, Nat.reduceLeDiff, if_true, if_false, eq_self, gfld_in, gobj_in, garr_in, garq_in, glen_in, gisO_in, ex_some, List.getElem?_cons_succ, List.getElem?_cons_zero, List.length_cons, List.length_nil, List.set_cons_succ, List.set_cons_zero, Nat.reduceLT, va_up_eq, va_up_nl, mW_0, hc]
          exact tail _ _ hb
        · have hc : ¬ nI m < nI s := nI_nlt (by omega) (by omega)
          obtain ⟨h3, h4⟩ := ht m (by omega)
          have v : vp_in (nI m) 150 := vp_in_nI (by omega) (by omega)
          have e1 : nI m + -1 = nI m - 1 := (Int32.sub_eq_add_neg _ _).symm
          have e2 : (tv m - 96) + 32 * tWv tv (m + 1) (e - (m + 1)) = tWv tv m (e - m) := by
            rw [show e - m = e - (m + 1) + 1 by omega, tWv]
          simp only [eX6_wordTo_10, eX6_wordTo_11, eX6_wordTo_14, eX6_wordTo_17, eX6_wordTo_18, eX6_wordTo_21, eX6_wordTo_22, eX6_wordTo_25, eX6_wordTo_26, eX6_wordTo_28, eX6_wordTo_31, eX6_wordTo_34, eX6_wordTo_35, eX6_wordTo_36, eX6_wordTo_37, eX6_wordTo_40, eX6_wordTo_41, eX6_wordTo_42, eX6_wordTo_43, eX6_wordTo_44, eX6_wordTo_47, eX6_wordTo_48, eX6_wordTo_49, eX6_wordTo_50, eX6_wordTo_50b, eX6_wordTo_50c, eX6_wordTo_50d, eX6_wordTo_51, eX6_wordTo_51b, eX6_wordTo_51c, eX6_wordTo_51d, eX6_wordTo_54, Option.toList_some, Option.toList_none, List.cons_append, List.nil_append, gcat_nil, gcat_cons, cat_int, cat_ref, cat_null, cat_ret, cat_long, grc_ref, narZ0, narZ1, true_and, and_true, decide_true, Nat.reduceAdd, Nat.reduceLeDiff, if_true, if_false, eq_self, gfld_in, gobj_in, garr_in, garq_in, glen_in, gisO_in, ex_some, List.getElem?_cons_succ, List.getElem?_cons_zero, List.length_cons, List.length_nil, List.set_cons_succ, List.set_cons_zero, Nat.reduceLT, va_up_eq, va_up_nl, mW_0, mW_6, hc, es, hc9, v, nI_clamp (show m < 2 ^ 31 by omega), h3, l64_step (hw m (by omega) (by omega)).1 h4, e1, e2]
          exact ih (by omega) (by omega)
    have := loop e hse (Nat.le_refl _)
    rw [Nat.sub_self, tWv] at this
    unfold tW9
    rw [if_pos q9]
    simp only [eX6_wordTo_0, eX6_wordTo_1, eX6_wordTo_1b, eX6_wordTo_1c, eX6_wordTo_1d, eX6_wordTo_2, eX6_wordTo_3, eX6_wordTo_6, eX6_wordTo_7, eX6_wordTo_8, eX6_wordTo_8b, eX6_wordTo_8c, eX6_wordTo_8d, Option.toList_some, Option.toList_none, List.cons_append, List.nil_append, gcat_nil, gcat_cons, cat_int, cat_ref, cat_null, cat_ret, cat_long, grc_ref, narZ0, narZ1, true_and, and_true, decide_true, Nat.reduceAdd, Nat.reduceLeDiff, if_true, if_false, eq_self, gfld_in, gobj_in, garr_in, garq_in, glen_in, gisO_in, ex_some, List.getElem?_cons_succ, List.getElem?_cons_zero, List.length_cons, List.length_nil, List.set_cons_succ, List.set_cons_zero, Nat.reduceLT, va_up_eq, va_up_nl, mW_0]
    exact this
  · have hc9 : 9 ≤ nI (e - s) := nI_le (a := 9) (by omega) (by omega)
    unfold tW9
    rw [if_neg q9]
    have t0 := tail 0 (nI e - 1) (by omega)
    have e0 : nI e - 1 = nI (e - 1) := by rw [show e = e - 1 + 1 by omega, nI_pred]; rfl
    have hc : ¬ nI (e - 1) < nI s := nI_nlt (by omega) (by omega)
    simp only [eX6_wordTo_0, eX6_wordTo_1, eX6_wordTo_1b, eX6_wordTo_1c, eX6_wordTo_1d, eX6_wordTo_2, eX6_wordTo_3, eX6_wordTo_6, eX6_wordTo_7, eX6_wordTo_8, eX6_wordTo_8b, eX6_wordTo_8c, eX6_wordTo_8d, Option.toList_some, Option.toList_none, List.cons_append, List.nil_append, gcat_nil, gcat_cons, cat_int, cat_ref, cat_null, cat_ret, cat_long, grc_ref, narZ0, narZ1, true_and, and_true, decide_true, Nat.reduceAdd, Nat.reduceLeDiff, if_true, if_false, eq_self, gfld_in, gobj_in, garr_in, garq_in, glen_in, gisO_in, ex_some, List.getElem?_cons_succ, List.getElem?_cons_zero, List.length_cons, List.length_nil, List.set_cons_succ, List.set_cons_zero, Nat.reduceLT, va_up_eq, va_up_nl, mW_0]
    rw [eX6_wordTo_9]
    simp only [eX6_wordTo_10, eX6_wordTo_11, eX6_wordTo_14, eX6_wordTo_17, eX6_wordTo_18, eX6_wordTo_21, eX6_wordTo_22, eX6_wordTo_25, eX6_wordTo_26, eX6_wordTo_28, Option.toList_some, Option.toList_none, List.cons_append, List.nil_append, gcat_nil, gcat_cons, cat_int, cat_ref, cat_null, cat_ret, cat_long, grc_ref, narZ0, narZ1, true_and, and_true, decide_true, Nat.reduceAdd, Nat.reduceLeDiff, if_true, if_false, eq_self, gfld_in, gobj_in, garr_in, garq_in, glen_in, gisO_in, ex_some, List.getElem?_cons_succ, List.getElem?_cons_zero, List.length_cons, List.length_nil, List.set_cons_succ, List.set_cons_zero, Nat.reduceLT, va_up_eq, va_up_nl, mW_0, e0, hc, es, hc9]
    rw [e0] at t0
    exact t0
end MT
