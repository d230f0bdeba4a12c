/-! TRACK: what is done to it -/
def sTr (w : gH) (t : Nat) (kr ts co : Nat → Int32) (kc tc rm jm : Int32) : gH := fun a => if a = t then .inr (3, [.ref (t + 1), .ref (t + 2), .ref (t + 3), .int kc, .int tc, .int rm, .int jm]) else if a = t + 1 then .inl (.int, 30, .inl kr) else if a = t + 2 then .inl (.int, 18, .inl ts) else if a = t + 3 then .inl (.int, 7, .inl co) else w a
section ST
variable {w : gH} {t : Nat} {kr ts co : Nat → Int32} {kc tc rm jm : Int32}
theorem sTr_0 : sTr w t kr ts co kc tc rm jm t = .inr (3, [.ref (t + 1), .ref (t + 2), .ref (t + 3), .int kc, .int tc, .int rm, .int jm]) := by simp [sTr]
theorem sTr_1 : sTr w t kr ts co kc tc rm jm (t + 1) = .inl (.int, 30, .inl kr) := by simp [sTr]
theorem sTr_2 : sTr w t kr ts co kc tc rm jm (t + 2) = .inl (.int, 18, .inl ts) := by simp [sTr]
theorem sTr_3 : sTr w t kr ts co kc tc rm jm (t + 3) = .inl (.int, 7, .inl co) := by simp [sTr]
theorem sTr_ne {a : Nat} (h : a < t ∨ t + 3 < a) : sTr w t kr ts co kc tc rm jm a = w a := by
  unfold sTr
  rw [if_neg (by omega), if_neg (by omega), if_neg (by omega), if_neg (by omega)]
theorem sTr_is : isTr (sTr w t kr ts co kc tc rm jm) t kr ts co kc tc rm jm := ⟨sTr_0, sTr_1, sTr_2, sTr_3⟩
theorem sTr_self (h : isTr w t kr ts co kc tc rm jm) : sTr w t kr ts co kc tc rm jm = w := by
  funext a
  unfold sTr
  by_cases h0 : a = t
  · subst h0; rw [if_pos rfl, h.1]
  · rw [if_neg h0]
    by_cases h1 : a = t + 1
    · subst h1; rw [if_pos rfl, h.2.1]
    · rw [if_neg h1]
      by_cases h2 : a = t + 2
      · subst h2; rw [if_pos rfl, h.2.2.1]
      · rw [if_neg h2]
        by_cases h3 : a = t + 3
        · subst h3; rw [if_pos rfl, h.2.2.2]
        · rw [if_neg h3]
theorem sTr_p0 {a b c d : Int32} : va_up (sTr w t kr ts co kc tc rm jm) t (.inr (3, [.ref (t + 1), .ref (t + 2), .ref (t + 3), .int a, .int b, .int c, .int d])) = sTr w t kr ts co a b c d := by
  funext z
  simp only [sTr, va_up]
  by_cases h0 : z = t <;> simp [h0]
theorem sTr_p1 {f : Nat → Int32} : va_up (sTr w t kr ts co kc tc rm jm) (t + 1) (.inl (.int, 30, .inl f)) = sTr w t f ts co kc tc rm jm := by
  funext z
  simp only [sTr, va_up]
  by_cases h0 : z = t + 1 <;> simp [h0]
theorem sTr_p2 {f : Nat → Int32} : va_up (sTr w t kr ts co kc tc rm jm) (t + 2) (.inl (.int, 18, .inl f)) = sTr w t kr f co kc tc rm jm := by
  funext z
  simp only [sTr, va_up]
  by_cases h0 : z = t + 2 <;> simp [h0]
theorem sTr_p3 {f : Nat → Int32} : va_up (sTr w t kr ts co kc tc rm jm) (t + 3) (.inl (.int, 7, .inl f)) = sTr w t kr ts f kc tc rm jm := by
  funext z
  simp only [sTr, va_up]
  by_cases h0 : z = t + 3 <;> simp [h0]
theorem sTr_sTr {kr' ts' co' : Nat → Int32} {kc' tc' rm' jm' : Int32} : sTr (sTr w t kr ts co kc tc rm jm) t kr' ts' co' kc' tc' rm' jm' = sTr w t kr' ts' co' kc' tc' rm' jm' := by
  funext z
  simp only [sTr]
  by_cases h0 : z = t
  · simp [h0]
  · by_cases h1 : z = t + 1
    · simp [h1]
    · by_cases h2 : z = t + 2
      · simp [h2]
      · by_cases h3 : z = t + 3 <;> simp [h0, h1, h2, h3]
end ST
/-- an entry of a row set, nothing beyond it -/
def gup (f : Nat → Int32) (N : Nat) (i x : Int32) : Nat → Int32 := if i < 0 then f else if Int32.ofNat N ≤ i then f else upd f i.toNatClampNeg x
theorem gup_at {f : Nat → Int32} {N i : Nat} {x : Int32} (h : i < N) (hN : N < 2 ^ 31) : gup f N (nI i) x = upd f i x := by
  unfold gup
  rw [if_neg (nI_pos (by omega)), if_neg (show ¬ Int32.ofNat N ≤ nI i from nI_ge h hN), nI_clamp (by omega)]
def gct (ts : Nat → Int32) (a b : Int32) : Nat → Int32 := gfor (fun f ts => gup ts 18 (b * 3 + nI f) (gof ts 18 (a * 3 + nI f))) 0 3 ts
def gz (co : Nat → Int32) : Nat → Int32 := gfor (fun i c => upd c i 0) 0 7 co
def gcp (f g : Nat → Int32) (N : Nat) : Nat → Int32 := fun j => if j < N then f j else g j
theorem va_cpy0 {f g : Nat → Int32} {N : Nat} : va_cpy f g 0 0 N = gcp f g N := by
  funext j
  unfold va_cpy gcp
  by_cases h : j < N
  · rw [if_pos ⟨Nat.zero_le _, by omega⟩, if_pos h]
    simp
  · rw [if_neg (fun z => h (by omega)), if_neg h]
section TW
variable {X : gX} {n k : Nat} {w : gH} {Q : Option Value → Nat → Nat → gH → Prop} {t : Nat} {kr ts co : Nat → Int32} {kc tc rm jm : Int32} {K N : Nat}
theorem c_putOfKind {a b x : Int32} : gEv (gT X) 50 0 [.ref t, .int a, .int b, .int x, .null] [] n k (sTr w t kr ts co kc tc rm jm) Q ↔ Q none n k (sTr w t (gup kr 30 (a * 5 + b) x) ts co kc tc rm jm) := by
  simp only [eX3_putOfKind_0, eX3_putOfKind_1, eX3_putOfKind_2, eX3_putOfKind_3, eX3_putOfKind_4, eX3_putOfKind_5, eX3_putOfKind_5b, eX3_putOfKind_5c, eX3_putOfKind_5d, eX3_putOfKind_7, eX3_putOfKind_9, eX3_putOfKind_12, eX3_putOfKind_14, eX3_putOfKind_15, eX3_putOfKind_18, eX3_putOfKind_19, eX3_putOfKind_22, eX3_putOfKind_23, eX3_putOfKind_26, eX3_putOfKind_28, eX3_putOfKind_29, eX3_putOfKind_30, Option.toList_some, Option.toList_none, List.cons_append, List.nil_append, gcat_nil, gcat_cons, cat_int, cat_ref, cat_null, cat_ret, cat_long, grc_ref, narZ0, narZ1, true_and, and_true, decide_true, Nat.reduceAdd, Nat.reduceLeDiff, if_true, if_false, eq_self, gfld_in, gobj_in, garr_in, garq_in, glen_in, gisO_in, ex_some, List.getElem?_cons_succ, List.getElem?_cons_zero, List.length_cons, List.length_nil, List.set_cons_succ, List.set_cons_zero, Nat.reduceLT, va_up_eq, va_up_nl, sTr_0, sTr_1, sTr_p1]
  unfold gup
  by_cases q1 : a * 5 + b < 0
  · rw [if_pos q1, if_pos q1]
  · rw [if_neg q1, if_neg q1]
    by_cases q2 : Int32.ofNat 30 ≤ a * 5 + b
    · rw [if_pos q2, if_pos q2]
    · rw [if_neg q2, if_neg q2]
      exact ⟨fun z => z.2, fun z => ⟨vp_in_g q1 q2 (by decide), z⟩⟩
theorem c_putOfTest {a b x : Int32} : gEv (gT X) 52 0 [.ref t, .int a, .int b, .int x, .null] [] n k (sTr w t kr ts co kc tc rm jm) Q ↔ Q none n k (sTr w t kr (gup ts 18 (a * 3 + b) x) co kc tc rm jm) := by
  simp only [eX3_putOfTest_0, eX3_putOfTest_1, eX3_putOfTest_2, eX3_putOfTest_3, eX3_putOfTest_4, eX3_putOfTest_5, eX3_putOfTest_5b, eX3_putOfTest_5c, eX3_putOfTest_5d, eX3_putOfTest_7, eX3_putOfTest_9, eX3_putOfTest_12, eX3_putOfTest_14, eX3_putOfTest_15, eX3_putOfTest_18, eX3_putOfTest_19, eX3_putOfTest_22, eX3_putOfTest_23, eX3_putOfTest_26, eX3_putOfTest_28, eX3_putOfTest_29, eX3_putOfTest_30, Option.toList_some, Option.toList_none, List.cons_append, List.nil_append, gcat_nil, gcat_cons, cat_int, cat_ref, cat_null, cat_ret, cat_long, grc_ref, narZ0, narZ1, true_and, and_true, decide_true, Nat.reduceAdd, Nat.reduceLeDiff, if_true, if_false, eq_self, gfld_in, gobj_in, garr_in, garq_in, glen_in, gisO_in, ex_some, List.getElem?_cons_succ, List.getElem?_cons_zero, List.length_cons, List.length_nil, List.set_cons_succ, List.set_cons_zero, Nat.reduceLT, va_up_eq, va_up_nl, sTr_0, sTr_2, sTr_p2]
  unfold gup
  by_cases q1 : a * 3 + b < 0
  · rw [if_pos q1, if_pos q1]
  · rw [if_neg q1, if_neg q1]
    by_cases q2 : Int32.ofNat 18 ≤ a * 3 + b
    · rw [if_pos q2, if_pos q2]
    · rw [if_neg q2, if_neg q2]
      exact ⟨fun z => z.2, fun z => ⟨vp_in_g q1 q2 (by decide), z⟩⟩
theorem c_appendKind {d v e r s : Int32} : gEv (gT X) 53 0 [.ref t, .int d, .int v, .int e, .int r, .int s] [] n k (sTr w t kr ts co kc tc rm jm) Q ↔ Q none n k (if 6 ≤ kc then sTr w t kr ts co kc tc rm jm else sTr w t (gup (gup (gup (gup (gup kr 30 (kc * 5 + 0) d) 30 (kc * 5 + 1) v) 30 (kc * 5 + 2) e) 30 (kc * 5 + 3) r) 30 (kc * 5 + 4) s) ts co (kc + 1) tc rm jm) := by
  simp only [eX3_appendKind_0, eX3_appendKind_1, eX3_appendKind_4, eX3_appendKind_6, eX3_appendKind_9, eX3_appendKind_10, eX3_appendKind_11, eX3_appendKind_14, eX3_appendKind_15, eX3_appendKind_16, eX3_appendKind_19, eX3_appendKind_20, eX3_appendKind_21, eX3_appendKind_24, eX3_appendKind_25, eX3_appendKind_26, eX3_appendKind_29, eX3_appendKind_30, eX3_appendKind_31, eX3_appendKind_34, eX3_appendKind_35, eX3_appendKind_36, eX3_appendKind_39, eX3_appendKind_40, eX3_appendKind_41, eX3_appendKind_44, eX3_appendKind_45, eX3_appendKind_47, eX3_appendKind_50, eX3_appendKind_51, eX3_appendKind_52, eX3_appendKind_55, eX3_appendKind_56, eX3_appendKind_58, eX3_appendKind_61, eX3_appendKind_62, eX3_appendKind_62b, eX3_appendKind_63, eX3_appendKind_66, eX3_appendKind_67, eX3_appendKind_68, eX3_appendKind_71, Option.toList_some, Option.toList_none, List.cons_append, List.nil_append, gcat_nil, gcat_cons, cat_int, cat_ref, cat_null, cat_ret, cat_long, grc_ref, narZ0, narZ1, true_and, and_true, decide_true, Nat.reduceAdd, Nat.reduceLeDiff, if_true, if_false, eq_self, gfld_in, gobj_in, garr_in, garq_in, glen_in, gisO_in, ex_some, List.getElem?_cons_succ, List.getElem?_cons_zero, List.length_cons, List.length_nil, List.set_cons_succ, List.set_cons_zero, Nat.reduceLT, va_up_eq, va_up_nl, sTr_0, c_putOfKind, sTr_p0]
  by_cases q1 : 6 ≤ kc
  · rw [if_pos q1, if_pos q1]
  · rw [if_neg q1, if_neg q1]
theorem c_copyTest {a b : Int32} : gEv (gT X) 56 0 [.ref t, .int a, .int b, .null] [] n k (sTr w t kr ts co kc tc rm jm) Q ↔ Q none n k (sTr w t kr (gct ts a b) co kc tc rm jm) := by
  have loop : ∀ (D j : Nat) (ts : Nat → Int32), j + D = 3 → (gEv (gT X) 56 2 [.ref t, .int a, .int b, .int (nI j)] [] n k (sTr w t kr ts co kc tc rm jm) Q ↔ Q none n k (sTr w t kr (gfor (fun f ts => gup ts 18 (b * 3 + nI f) (gof ts 18 (a * 3 + nI f))) j D ts) co kc tc rm jm)) := by
    intro D
    induction D with
    | zero =>
      intro j ts hj
      have hc : 3 ≤ nI j := nI_le (a := 3) (by omega) (by omega)
      rw [eX3_copyTest_2]
      simp only [eX3_copyTest_0, eX3_copyTest_1, eX3_copyTest_1b, eX3_copyTest_1c, eX3_copyTest_1d, eX3_copyTest_3, eX3_copyTest_4, eX3_copyTest_7, eX3_copyTest_8, eX3_copyTest_9, eX3_copyTest_10, eX3_copyTest_11, eX3_copyTest_12, eX3_copyTest_13, eX3_copyTest_16, eX3_copyTest_19, eX3_copyTest_19b, eX3_copyTest_19c, eX3_copyTest_19d, eX3_copyTest_22, eX3_copyTest_25, Option.toList_some, Option.toList_none, List.cons_append, List.nil_append, gcat_nil, gcat_cons, cat_int, cat_ref, cat_null, cat_ret, cat_long, grc_ref, narZ0, narZ1, true_and, and_true, decide_true, Nat.reduceAdd, Nat.reduceLeDiff, if_true, if_false, eq_self, gfld_in, gobj_in, garr_in, garq_in, glen_in, gisO_in, ex_some, List.getElem?_cons_succ, List.getElem?_cons_zero, List.length_cons, List.length_nil, List.set_cons_succ, List.set_cons_zero, Nat.reduceLT, va_up_eq, va_up_nl, hc]
      rfl
    | succ D ih =>
      intro j ts hj
      have hc : ¬ 3 ≤ nI j := nI_ge (b := 3) (by omega) (by omega)
      rw [eX3_copyTest_2]
      simp only [eX3_copyTest_0, eX3_copyTest_1, eX3_copyTest_1b, eX3_copyTest_1c, eX3_copyTest_1d, eX3_copyTest_3, eX3_copyTest_4, eX3_copyTest_7, eX3_copyTest_8, eX3_copyTest_9, eX3_copyTest_10, eX3_copyTest_11, eX3_copyTest_12, eX3_copyTest_13, eX3_copyTest_16, eX3_copyTest_19, eX3_copyTest_19b, eX3_copyTest_19c, eX3_copyTest_19d, eX3_copyTest_22, eX3_copyTest_25, Option.toList_some, Option.toList_none, List.cons_append, List.nil_append, gcat_nil, gcat_cons, cat_int, cat_ref, cat_null, cat_ret, cat_long, grc_ref, narZ0, narZ1, true_and, and_true, decide_true, Nat.reduceAdd, Nat.reduceLeDiff, if_true, if_false, eq_self, gfld_in, gobj_in, garr_in, garq_in, glen_in, gisO_in, ex_some, List.getElem?_cons_succ, List.getElem?_cons_zero, List.length_cons, List.length_nil, List.set_cons_succ, List.set_cons_zero, Nat.reduceLT, va_up_eq, va_up_nl, hc, sTr_0, c_ofTest sTr_is, c_putOfTest, nI_1, ih (j + 1) _ (by omega)]
      rfl
  simp only [eX3_copyTest_0, eX3_copyTest_1, eX3_copyTest_1b, eX3_copyTest_1c, eX3_copyTest_1d, eX3_copyTest_3, eX3_copyTest_4, eX3_copyTest_7, eX3_copyTest_8, eX3_copyTest_9, eX3_copyTest_10, eX3_copyTest_11, eX3_copyTest_12, eX3_copyTest_13, eX3_copyTest_16, eX3_copyTest_19, eX3_copyTest_19b, eX3_copyTest_19c, eX3_copyTest_19d, eX3_copyTest_22, eX3_copyTest_25, Option.toList_some, Option.toList_none, List.cons_append, List.nil_append, gcat_nil, gcat_cons, cat_int, cat_ref, cat_null, cat_ret, cat_long, grc_ref, narZ0, narZ1, true_and, and_true, decide_true, Nat.reduceAdd, Nat.reduceLeDiff, if_true, if_false, eq_self, gfld_in, gobj_in, garr_in, garq_in, glen_in, gisO_in, ex_some, List.getElem?_cons_succ, List.getElem?_cons_zero, List.length_cons, List.length_nil, List.set_cons_succ, List.set_cons_zero, Nat.reduceLT, va_up_eq, va_up_nl]
  exact loop 3 0 ts rfl
theorem c_insertTest (hN : N < 6) {p : Nat} (hp : p ≤ N) {so bo cs : Int32} : gEv (gT X) 54 0 [.ref t, .int (nI p), .int so, .int bo, .int cs, .null] [] n k (sTr w t kr ts co kc (nI N) rm jm) Q ↔ Q none n k (sTr w t kr (gup (gup (gup (gfor (fun i ts => gct ts (nI (N - i - 1)) (nI (N - i))) 0 (N - p) ts) 18 (nI p * 3 + 0) so) 18 (nI p * 3 + 1) bo) 18 (nI p * 3 + 2) cs) co kc (nI (N + 1)) rm jm) := by
  have loop : ∀ (D i : Nat) (ts : Nat → Int32), i + D = N - p → (gEv (gT X) 54 15 [.ref t, .int (nI p), .int so, .int bo, .int cs, .int (nI (N - i))] [] n k (sTr w t kr ts co kc (nI N) rm jm) Q ↔ Q none n k (sTr w t kr (gup (gup (gup (gfor (fun i ts => gct ts (nI (N - i - 1)) (nI (N - i))) i D ts) 18 (nI p * 3 + 0) so) 18 (nI p * 3 + 1) bo) 18 (nI p * 3 + 2) cs) co kc (nI (N + 1)) rm jm)) := by
    intro D
    induction D with
    | zero =>
      intro i ts hi
      have hc : nI (N - i) ≤ nI p := nI_le (by omega) (by omega)
      rw [eX3_insertTest_15]
      simp only [eX3_insertTest_0, eX3_insertTest_1, eX3_insertTest_4, eX3_insertTest_6, eX3_insertTest_9, eX3_insertTest_10, eX3_insertTest_13, eX3_insertTest_13b, eX3_insertTest_13c, eX3_insertTest_13d, eX3_insertTest_17, eX3_insertTest_18, eX3_insertTest_21, eX3_insertTest_22, eX3_insertTest_24, eX3_insertTest_25, eX3_insertTest_26, eX3_insertTest_28, eX3_insertTest_31, eX3_insertTest_31b, eX3_insertTest_31c, eX3_insertTest_31d, eX3_insertTest_34, eX3_insertTest_37, eX3_insertTest_38, eX3_insertTest_39, eX3_insertTest_40, eX3_insertTest_41, eX3_insertTest_44, eX3_insertTest_45, eX3_insertTest_46, eX3_insertTest_47, eX3_insertTest_48, eX3_insertTest_51, eX3_insertTest_52, eX3_insertTest_53, eX3_insertTest_54, eX3_insertTest_56, eX3_insertTest_59, eX3_insertTest_60, eX3_insertTest_60b, eX3_insertTest_61, eX3_insertTest_64, eX3_insertTest_65, eX3_insertTest_66, eX3_insertTest_69, Option.toList_some, Option.toList_none, List.cons_append, List.nil_append, gcat_nil, gcat_cons, cat_int, cat_ref, cat_null, cat_ret, cat_long, grc_ref, narZ0, narZ1, true_and, and_true, decide_true, Nat.reduceAdd, Nat.reduceLeDiff, if_true, if_false, eq_self, gfld_in, gobj_in, garr_in, garq_in, glen_in, gisO_in, ex_some, List.getElem?_cons_succ, List.getElem?_cons_zero, List.length_cons, List.length_nil, List.set_cons_succ, List.set_cons_zero, Nat.reduceLT, va_up_eq, va_up_nl, hc, sTr_0, c_putOfTest, sTr_p0, nI_1]
      rfl
    | succ D ih =>
      intro i ts hi
      have hc : ¬ nI (N - i) ≤ nI p := nI_ge (by omega) (by omega)
      have e1 : nI (N - i) - 1 = nI (N - i - 1) := by
        rw [show N - i = N - i - 1 + 1 by omega, nI_pred]
        rfl
      have e2 : nI (N - i) + -1 = nI (N - (i + 1)) := by
        rw [show N - i = N - (i + 1) + 1 by omega, pk_m1]
      rw [eX3_insertTest_15]
      simp only [eX3_insertTest_0, eX3_insertTest_1, eX3_insertTest_4, eX3_insertTest_6, eX3_insertTest_9, eX3_insertTest_10, eX3_insertTest_13, eX3_insertTest_13b, eX3_insertTest_13c, eX3_insertTest_13d, eX3_insertTest_17, eX3_insertTest_18, eX3_insertTest_21, eX3_insertTest_22, eX3_insertTest_24, eX3_insertTest_25, eX3_insertTest_26, eX3_insertTest_28, eX3_insertTest_31, eX3_insertTest_31b, eX3_insertTest_31c, eX3_insertTest_31d, eX3_insertTest_34, eX3_insertTest_37, eX3_insertTest_38, eX3_insertTest_39, eX3_insertTest_40, eX3_insertTest_41, eX3_insertTest_44, eX3_insertTest_45, eX3_insertTest_46, eX3_insertTest_47, eX3_insertTest_48, eX3_insertTest_51, eX3_insertTest_52, eX3_insertTest_53, eX3_insertTest_54, eX3_insertTest_56, eX3_insertTest_59, eX3_insertTest_60, eX3_insertTest_60b, eX3_insertTest_61, eX3_insertTest_64, eX3_insertTest_65, eX3_insertTest_66, eX3_insertTest_69, Option.toList_some, Option.toList_none, List.cons_append, List.nil_append, gcat_nil, gcat_cons, cat_int, cat_ref, cat_null, cat_ret, cat_long, grc_ref, narZ0, narZ1, true_and, and_true, decide_true, Nat.reduceAdd, Nat.reduceLeDiff, if_true, if_false, eq_self, gfld_in, gobj_in, garr_in, garq_in, glen_in, gisO_in, ex_some, List.getElem?_cons_succ, List.getElem?_cons_zero, List.length_cons, List.length_nil, List.set_cons_succ, List.set_cons_zero, Nat.reduceLT, va_up_eq, va_up_nl, hc, sTr_0, e1, e2, c_copyTest, ih (i + 1) _ (by omega)]
      rfl
  have hc : ¬ 6 ≤ nI N := nI_ge (b := 6) (by omega) (by omega)
  simp only [eX3_insertTest_0, eX3_insertTest_1, eX3_insertTest_4, eX3_insertTest_6, eX3_insertTest_9, eX3_insertTest_10, eX3_insertTest_13, eX3_insertTest_13b, eX3_insertTest_13c, eX3_insertTest_13d, eX3_insertTest_17, eX3_insertTest_18, eX3_insertTest_21, eX3_insertTest_22, eX3_insertTest_24, eX3_insertTest_25, eX3_insertTest_26, eX3_insertTest_28, eX3_insertTest_31, eX3_insertTest_31b, eX3_insertTest_31c, eX3_insertTest_31d, eX3_insertTest_34, eX3_insertTest_37, eX3_insertTest_38, eX3_insertTest_39, eX3_insertTest_40, eX3_insertTest_41, eX3_insertTest_44, eX3_insertTest_45, eX3_insertTest_46, eX3_insertTest_47, eX3_insertTest_48, eX3_insertTest_51, eX3_insertTest_52, eX3_insertTest_53, eX3_insertTest_54, eX3_insertTest_56, eX3_insertTest_59, eX3_insertTest_60, eX3_insertTest_60b, eX3_insertTest_61, eX3_insertTest_64, eX3_insertTest_65, eX3_insertTest_66, eX3_insertTest_69, Option.toList_some, Option.toList_none, List.cons_append, List.nil_append, gcat_nil, gcat_cons, cat_int, cat_ref, cat_null, cat_ret, cat_long, grc_ref, narZ0, narZ1, true_and, and_true, decide_true, Nat.reduceAdd, Nat.reduceLeDiff, if_true, if_false, eq_self, gfld_in, gobj_in, garr_in, garq_in, glen_in, gisO_in, ex_some, List.getElem?_cons_succ, List.getElem?_cons_zero, List.length_cons, List.length_nil, List.set_cons_succ, List.set_cons_zero, Nat.reduceLT, va_up_eq, va_up_nl, sTr_0, hc]
  exact loop (N - p) 0 ts (by omega)
theorem c_removeTest (hN : N ≤ 6) {p : Nat} (hp : p < N) : gEv (gT X) 55 0 [.ref t, .int (nI p), .null] [] n k (sTr w t kr ts co kc (nI N) rm jm) Q ↔ Q none n k (sTr w t kr (gfor (fun i ts => gct ts (nI (i + 1)) (nI i)) p (N - 1 - p) ts) co kc (nI (N - 1)) rm jm) := by
  have e0 : nI N - 1 = nI (N - 1) := by
    rw [show N = N - 1 + 1 by omega, nI_pred]
    rfl
  have loop : ∀ (D i : Nat) (ts : Nat → Int32), i + D = N - 1 → (gEv (gT X) 55 10 [.ref t, .int (nI p), .int (nI i)] [] n k (sTr w t kr ts co kc (nI N) rm jm) Q ↔ Q none n k (sTr w t kr (gfor (fun i ts => gct ts (nI (i + 1)) (nI i)) i D ts) co kc (nI (N - 1)) rm jm)) := by
    intro D
    induction D with
    | zero =>
      intro i ts hi
      have hc : nI (N - 1) ≤ nI i := nI_le (by omega) (by omega)
      rw [eX3_removeTest_10]
      simp only [eX3_removeTest_0, eX3_removeTest_1, eX3_removeTest_2, eX3_removeTest_5, eX3_removeTest_8, eX3_removeTest_9, eX3_removeTest_9b, eX3_removeTest_9c, eX3_removeTest_9d, eX3_removeTest_11, eX3_removeTest_12, eX3_removeTest_15, eX3_removeTest_16, eX3_removeTest_17, eX3_removeTest_20, eX3_removeTest_21, eX3_removeTest_22, eX3_removeTest_23, eX3_removeTest_24, eX3_removeTest_25, eX3_removeTest_28, eX3_removeTest_28b, eX3_removeTest_28c, eX3_removeTest_28d, eX3_removeTest_31, eX3_removeTest_34, eX3_removeTest_35, eX3_removeTest_35b, eX3_removeTest_36, eX3_removeTest_39, eX3_removeTest_40, eX3_removeTest_41, eX3_removeTest_44, Option.toList_some, Option.toList_none, List.cons_append, List.nil_append, gcat_nil, gcat_cons, cat_int, cat_ref, cat_null, cat_ret, cat_long, grc_ref, narZ0, narZ1, true_and, and_true, decide_true, Nat.reduceAdd, Nat.reduceLeDiff, if_true, if_false, eq_self, gfld_in, gobj_in, garr_in, garq_in, glen_in, gisO_in, ex_some, List.getElem?_cons_succ, List.getElem?_cons_zero, List.length_cons, List.length_nil, List.set_cons_succ, List.set_cons_zero, Nat.reduceLT, va_up_eq, va_up_nl, sTr_0, e0, hc, sTr_p0]
      rfl
    | succ D ih =>
      intro i ts hi
      have hc : ¬ nI (N - 1) ≤ nI i := nI_ge (by omega) (by omega)
      rw [eX3_removeTest_10]
      simp only [eX3_removeTest_0, eX3_removeTest_1, eX3_removeTest_2, eX3_removeTest_5, eX3_removeTest_8, eX3_removeTest_9, eX3_removeTest_9b, eX3_removeTest_9c, eX3_removeTest_9d, eX3_removeTest_11, eX3_removeTest_12, eX3_removeTest_15, eX3_removeTest_16, eX3_removeTest_17, eX3_removeTest_20, eX3_removeTest_21, eX3_removeTest_22, eX3_removeTest_23, eX3_removeTest_24, eX3_removeTest_25, eX3_removeTest_28, eX3_removeTest_28b, eX3_removeTest_28c, eX3_removeTest_28d, eX3_removeTest_31, eX3_removeTest_34, eX3_removeTest_35, eX3_removeTest_35b, eX3_removeTest_36, eX3_removeTest_39, eX3_removeTest_40, eX3_removeTest_41, eX3_removeTest_44, Option.toList_some, Option.toList_none, List.cons_append, List.nil_append, gcat_nil, gcat_cons, cat_int, cat_ref, cat_null, cat_ret, cat_long, grc_ref, narZ0, narZ1, true_and, and_true, decide_true, Nat.reduceAdd, Nat.reduceLeDiff, if_true, if_false, eq_self, gfld_in, gobj_in, garr_in, garq_in, glen_in, gisO_in, ex_some, List.getElem?_cons_succ, List.getElem?_cons_zero, List.length_cons, List.length_nil, List.set_cons_succ, List.set_cons_zero, Nat.reduceLT, va_up_eq, va_up_nl, sTr_0, e0, hc, nI_1, c_copyTest, ih (i + 1) _ (by omega)]
      rfl
  have hh : gb (0 ≤ nI p ∧ nI p < nI N) = 1 := gb_t ⟨nI_pos' (by omega), nI_lt hp (by omega)⟩
  have h10 : ¬ (1 : Int32) = 0 := by decide
  simp only [eX3_removeTest_0, eX3_removeTest_1, eX3_removeTest_2, eX3_removeTest_5, eX3_removeTest_8, eX3_removeTest_9, eX3_removeTest_9b, eX3_removeTest_9c, eX3_removeTest_9d, eX3_removeTest_11, eX3_removeTest_12, eX3_removeTest_15, eX3_removeTest_16, eX3_removeTest_17, eX3_removeTest_20, eX3_removeTest_21, eX3_removeTest_22, eX3_removeTest_23, eX3_removeTest_24, eX3_removeTest_25, eX3_removeTest_28, eX3_removeTest_28b, eX3_removeTest_28c, eX3_removeTest_28d, eX3_removeTest_31, eX3_removeTest_34, eX3_removeTest_35, eX3_removeTest_35b, eX3_removeTest_36, eX3_removeTest_39, eX3_removeTest_40, eX3_removeTest_41, eX3_removeTest_44, Option.toList_some, Option.toList_none, List.cons_append, List.nil_append, gcat_nil, gcat_cons, cat_int, cat_ref, cat_null, cat_ret, cat_long, grc_ref, narZ0, narZ1, true_and, and_true, decide_true, Nat.reduceAdd, Nat.reduceLeDiff, if_true, if_false, eq_self, gfld_in, gobj_in, garr_in, garq_in, glen_in, gisO_in, ex_some, List.getElem?_cons_succ, List.getElem?_cons_zero, List.length_cons, List.length_nil, List.set_cons_succ, List.set_cons_zero, Nat.reduceLT, va_up_eq, va_up_nl, sTr_0, c_hasTest sTr_is, hh, h10]
  exact loop (N - 1 - p) p ts (by omega)
theorem c_emptyBin {a : Int32} : gEv (gT X) 59 0 [.ref t, .int a] [] n k (sTr w t kr ts co kc tc rm jm) Q ↔ Q none n k (sTr w t kr ts (gup co 7 a 0) kc tc rm jm) := by
  simp only [eX3_emptyBin_0, eX3_emptyBin_1, eX3_emptyBin_4, eX3_emptyBin_5, eX3_emptyBin_6, eX3_emptyBin_9, eX3_emptyBin_10, eX3_emptyBin_13, eX3_emptyBin_14, eX3_emptyBin_17, eX3_emptyBin_18, eX3_emptyBin_19, eX3_emptyBin_20, Option.toList_some, Option.toList_none, List.cons_append, List.nil_append, gcat_nil, gcat_cons, cat_int, cat_ref, cat_null, cat_ret, cat_long, grc_ref, narZ0, narZ1, true_and, and_true, decide_true, Nat.reduceAdd, Nat.reduceLeDiff, if_true, if_false, eq_self, gfld_in, gobj_in, garr_in, garq_in, glen_in, gisO_in, ex_some, List.getElem?_cons_succ, List.getElem?_cons_zero, List.length_cons, List.length_nil, List.set_cons_succ, List.set_cons_zero, Nat.reduceLT, va_up_eq, va_up_nl, sTr_0, sTr_3, sTr_p3]
  unfold gup
  by_cases q1 : a < 0
  · rw [if_pos q1, if_pos q1]
  · rw [if_neg q1, if_neg q1]
    by_cases q2 : Int32.ofNat 7 ≤ a
    · rw [if_pos q2, if_pos q2]
    · rw [if_neg q2, if_neg q2]
      exact ⟨fun z => z.2, fun z => ⟨vp_in_g q1 q2 (by decide), z⟩⟩
theorem c_emptyAll : gEv (gT X) 60 0 [.ref t, .null] [] n k (sTr w t kr ts co kc tc rm jm) Q ↔ Q none n k (sTr w t kr ts (gz co) kc tc rm (-9)) := by
  have loop : ∀ (D j : Nat) (co : Nat → Int32), j + D = 7 → (gEv (gT X) 60 2 [.ref t, .int (nI j)] [] n k (sTr w t kr ts co kc tc rm jm) Q ↔ Q none n k (sTr w t kr ts (gfor (fun i c => upd c i 0) j D co) kc tc rm (-9))) := by
    intro D
    induction D with
    | zero =>
      intro j co hj
      have hc : Int32.ofNat 7 ≤ nI j := nI_le (a := 7) (by omega) (by omega)
      rw [eX3_emptyAll_2]
      simp only [eX3_emptyAll_0, eX3_emptyAll_1, eX3_emptyAll_1b, eX3_emptyAll_1c, eX3_emptyAll_1d, eX3_emptyAll_3, eX3_emptyAll_4, eX3_emptyAll_7, eX3_emptyAll_8, eX3_emptyAll_11, eX3_emptyAll_12, eX3_emptyAll_15, eX3_emptyAll_16, eX3_emptyAll_17, eX3_emptyAll_18, eX3_emptyAll_18b, eX3_emptyAll_18c, eX3_emptyAll_18d, eX3_emptyAll_21, eX3_emptyAll_24, eX3_emptyAll_25, eX3_emptyAll_27, eX3_emptyAll_30, Option.toList_some, Option.toList_none, List.cons_append, List.nil_append, gcat_nil, gcat_cons, cat_int, cat_ref, cat_null, cat_ret, cat_long, grc_ref, narZ0, narZ1, true_and, and_true, decide_true, Nat.reduceAdd, Nat.reduceLeDiff, if_true, if_false, eq_self, gfld_in, gobj_in, garr_in, garq_in, glen_in, gisO_in, ex_some, List.getElem?_cons_succ, List.getElem?_cons_zero, List.length_cons, List.length_nil, List.set_cons_succ, List.set_cons_zero, Nat.reduceLT, va_up_eq, va_up_nl, sTr_0, sTr_3, hc, sTr_p0]
      rfl
    | succ D ih =>
      intro j co hj
      have hc : ¬ Int32.ofNat 7 ≤ nI j := nI_ge (b := 7) (by omega) (by omega)
      have hv : vp_in (nI j) 7 := vp_in_nI (by omega) (by omega)
      rw [eX3_emptyAll_2]
      simp only [eX3_emptyAll_0, eX3_emptyAll_1, eX3_emptyAll_1b, eX3_emptyAll_1c, eX3_emptyAll_1d, eX3_emptyAll_3, eX3_emptyAll_4, eX3_emptyAll_7, eX3_emptyAll_8, eX3_emptyAll_11, eX3_emptyAll_12, eX3_emptyAll_15, eX3_emptyAll_16, eX3_emptyAll_17, eX3_emptyAll_18, eX3_emptyAll_18b, eX3_emptyAll_18c, eX3_emptyAll_18d, eX3_emptyAll_21, eX3_emptyAll_24, eX3_emptyAll_25, eX3_emptyAll_27, eX3_emptyAll_30, Option.toList_some, Option.toList_none, List.cons_append, List.nil_append, gcat_nil, gcat_cons, cat_int, cat_ref, cat_null, cat_ret, cat_long, grc_ref, narZ0, narZ1, true_and, and_true, decide_true, Nat.reduceAdd, Nat.reduceLeDiff, if_true, if_false, eq_self, gfld_in, gobj_in, garr_in, garq_in, glen_in, gisO_in, ex_some, List.getElem?_cons_succ, List.getElem?_cons_zero, List.length_cons, List.length_nil, List.set_cons_succ, List.set_cons_zero, Nat.reduceLT, va_up_eq, va_up_nl, sTr_0, sTr_3, hc, hv, sTr_p3, nI_1, nI_clamp (show j < 2 ^ 31 by omega), ih (j + 1) _ (by omega)]
      rfl
  simp only [eX3_emptyAll_0, eX3_emptyAll_1, eX3_emptyAll_1b, eX3_emptyAll_1c, eX3_emptyAll_1d, eX3_emptyAll_3, eX3_emptyAll_4, eX3_emptyAll_7, eX3_emptyAll_8, eX3_emptyAll_11, eX3_emptyAll_12, eX3_emptyAll_15, eX3_emptyAll_16, eX3_emptyAll_17, eX3_emptyAll_18, eX3_emptyAll_18b, eX3_emptyAll_18c, eX3_emptyAll_18d, eX3_emptyAll_21, eX3_emptyAll_24, eX3_emptyAll_25, eX3_emptyAll_27, eX3_emptyAll_30, Option.toList_some, Option.toList_none, List.cons_append, List.nil_append, gcat_nil, gcat_cons, cat_int, cat_ref, cat_null, cat_ret, cat_long, grc_ref, narZ0, narZ1, true_and, and_true, decide_true, Nat.reduceAdd, Nat.reduceLeDiff, if_true, if_false, eq_self, gfld_in, gobj_in, garr_in, garq_in, glen_in, gisO_in, ex_some, List.getElem?_cons_succ, List.getElem?_cons_zero, List.length_cons, List.length_nil, List.set_cons_succ, List.set_cons_zero, Nat.reduceLT, va_up_eq, va_up_nl]
  exact loop 7 0 co rfl
theorem c_reset : gEv (gT X) 43 0 [.ref t] [] n k (sTr w t kr ts co kc tc rm jm) Q ↔ Q none n k (sTr w t kr ts (gz co) 0 0 20 (-9)) := by
  simp only [eX3_reset_0, eX3_reset_1, eX3_reset_2, eX3_reset_5, eX3_reset_6, eX3_reset_7, eX3_reset_10, eX3_reset_11, eX3_reset_13, eX3_reset_16, eX3_reset_17, eX3_reset_20, Option.toList_some, Option.toList_none, List.cons_append, List.nil_append, gcat_nil, gcat_cons, cat_int, cat_ref, cat_null, cat_ret, cat_long, grc_ref, narZ0, narZ1, true_and, and_true, decide_true, Nat.reduceAdd, Nat.reduceLeDiff, if_true, if_false, eq_self, gfld_in, gobj_in, garr_in, garq_in, glen_in, gisO_in, ex_some, List.getElem?_cons_succ, List.getElem?_cons_zero, List.length_cons, List.length_nil, List.set_cons_succ, List.set_cons_zero, Nat.reduceLT, va_up_eq, va_up_nl, sTr_0, sTr_p0, c_emptyAll]
theorem c_takeIn {b : Nat} (hb : b < 7) : gEv (gT X) 61 0 [.ref t, .int (nI b)] [] n k (sTr w t kr ts co kc tc rm jm) Q ↔ (if co b < rm then Q (some (.int 1)) n k (sTr w t kr ts (upd co b (co b + 1)) kc tc rm jm) else Q (some (.int 0)) n k (sTr w t kr ts co kc tc rm (nI b))) := by
  have q1 : ¬ nI b < 0 := nI_pos (by omega)
  have q2 : ¬ Int32.ofNat 7 ≤ nI b := nI_ge (b := 7) (by omega) (by omega)
  have q3 : vp_in (nI b) 7 := vp_in_nI (by omega) (by omega)
  simp only [eX3_takeIn_0, eX3_takeIn_1, eX3_takeIn_4, eX3_takeIn_5, eX3_takeIn_6, eX3_takeIn_9, eX3_takeIn_10, eX3_takeIn_13, eX3_takeIn_14, eX3_takeIn_17, eX3_takeIn_18, eX3_takeIn_19, eX3_takeIn_20, eX3_takeIn_23, eX3_takeIn_26, eX3_takeIn_27, eX3_takeIn_30, eX3_takeIn_31, eX3_takeIn_32, eX3_takeIn_33, eX3_takeIn_34, eX3_takeIn_35, eX3_takeIn_36, eX3_takeIn_37, eX3_takeIn_38, eX3_takeIn_39, eX3_takeIn_40, eX3_takeIn_43, eX3_takeIn_44, Option.toList_some, Option.toList_none, List.cons_append, List.nil_append, gcat_nil, gcat_cons, cat_int, cat_ref, cat_null, cat_ret, cat_long, grc_ref, narZ0, narZ1, true_and, and_true, decide_true, Nat.reduceAdd, Nat.reduceLeDiff, if_true, if_false, eq_self, gfld_in, gobj_in, garr_in, garq_in, glen_in, gisO_in, ex_some, List.getElem?_cons_succ, List.getElem?_cons_zero, List.length_cons, List.length_nil, List.set_cons_succ, List.set_cons_zero, Nat.reduceLT, va_up_eq, va_up_nl, sTr_0, sTr_3, sTr_p0, sTr_p3, q1, q2, q3, nI_clamp (show b < 2 ^ 31 by omega)]
  by_cases q : rm ≤ co b
  · rw [if_pos q, if_neg (Int32.not_lt.mpr q)]
  · rw [if_neg q, if_pos (Int32.not_le.mp q)]
theorem c_copyFrom {o : Nat} {kr' ts' co' : Nat → Int32} {kc' tc' rm' jm' : Int32} (ho : isTr w o kr' ts' co' kc' tc' rm' jm') (hd : o + 3 < t ∨ t + 3 < o) : gEv (gT X) 44 0 [.ref t, .ref o] [] n k (sTr w t kr ts co kc tc rm jm) Q ↔ Q none n k (sTr w t (gcp kr' kr 30) (gcp ts' ts 18) (gcp co' co 7) kc' tc' rm' jm') := by
  obtain ⟨h0, h1, h2, h3⟩ := ho
  have g0 : ∀ {kr ts co : Nat → Int32} {kc tc rm jm : Int32}, sTr w t kr ts co kc tc rm jm o = w o := sTr_ne (by omega)
  have g1 : ∀ {kr ts co : Nat → Int32} {kc tc rm jm : Int32}, sTr w t kr ts co kc tc rm jm (o + 1) = w (o + 1) := sTr_ne (by omega)
  have g2 : ∀ {kr ts co : Nat → Int32} {kc tc rm jm : Int32}, sTr w t kr ts co kc tc rm jm (o + 2) = w (o + 2) := sTr_ne (by omega)
  have g3 : ∀ {kr ts co : Nat → Int32} {kc tc rm jm : Int32}, sTr w t kr ts co kc tc rm jm (o + 3) = w (o + 3) := sTr_ne (by omega)
  have z0 : ¬ (0 : Int32) < 0 := by decide
  have z30 : ¬ Int32.ofNat 30 < 0 := by decide
  have z18 : ¬ Int32.ofNat 18 < 0 := by decide
  have z7 : ¬ Int32.ofNat 7 < 0 := by decide
  have y0 : (0 : Int32).toNatClampNeg = 0 := by decide
  have y30 : (Int32.ofNat 30).toNatClampNeg = 30 := by decide
  have y18 : (Int32.ofNat 18).toNatClampNeg = 18 := by decide
  have y7 : (Int32.ofNat 7).toNatClampNeg = 7 := by decide
  simp only [eX3_copyFrom_0, eX3_copyFrom_1, eX3_copyFrom_4, eX3_copyFrom_5, eX3_copyFrom_6, eX3_copyFrom_9, eX3_copyFrom_10, eX3_copyFrom_11, eX3_copyFrom_14, eX3_copyFrom_15, eX3_copyFrom_18, eX3_copyFrom_19, eX3_copyFrom_22, eX3_copyFrom_23, eX3_copyFrom_24, eX3_copyFrom_27, eX3_copyFrom_28, eX3_copyFrom_29, eX3_copyFrom_32, eX3_copyFrom_33, eX3_copyFrom_36, eX3_copyFrom_37, eX3_copyFrom_40, eX3_copyFrom_41, eX3_copyFrom_42, eX3_copyFrom_45, eX3_copyFrom_46, eX3_copyFrom_47, eX3_copyFrom_50, eX3_copyFrom_51, eX3_copyFrom_54, eX3_copyFrom_55, eX3_copyFrom_56, eX3_copyFrom_59, eX3_copyFrom_62, eX3_copyFrom_63, eX3_copyFrom_64, eX3_copyFrom_67, eX3_copyFrom_70, eX3_copyFrom_71, eX3_copyFrom_72, eX3_copyFrom_75, eX3_copyFrom_78, eX3_copyFrom_79, eX3_copyFrom_80, eX3_copyFrom_83, eX3_copyFrom_86, Option.toList_some, Option.toList_none, List.cons_append, List.nil_append, gcat_nil, gcat_cons, cat_int, cat_ref, cat_null, cat_ret, cat_long, grc_ref, narZ0, narZ1, true_and, and_true, decide_true, Nat.reduceAdd, Nat.reduceLeDiff, if_true, if_false, eq_self, gfld_in, gobj_in, garr_in, garq_in, glen_in, gisO_in, ex_some, List.getElem?_cons_succ, List.getElem?_cons_zero, List.length_cons, List.length_nil, List.set_cons_succ, List.set_cons_zero, Nat.reduceLT, va_up_eq, va_up_nl, sTr_0, sTr_1, sTr_2, sTr_3, g0, g1, g2, g3, h0, h1, h2, h3, exists_and_left, exists_eq_left', Option.some.injEq, z0, z30, z18, z7, y0, y30, y18, y7, not_false_eq_true, Nat.zero_add, Nat.le_refl, va_cpy0, sTr_p1, sTr_p2, sTr_p3, sTr_p0]
end TW
