/-! TRACK: kinds, tolls, price, wear -/
def gtl (ts : Nat → Int32) (b : Int32) : Nat → Nat → Int32 → Int32
  | _, 0, a => a
  | j, d + 1, a => if b < nI j then a else gtl ts b (j + 1) d (a + gof ts 18 (nI j * 3 + 2))
def gks (bs : Nat → Int32) (b : Int32) (K : Nat) : Int32 := gfor (fun c a => if (bs c >>> (b &&& 31)) &&& 1 = 0 then a else a ||| (1 <<< (nI c &&& 31))) 0 K 0
def gdb (bs : Nat → Int32) (K : Nat) : Int32 := gfor (fun c a => if bs c &&& (bs c - 1) = 0 then a else a ||| (1 <<< (nI c &&& 31))) 0 K 0
def gab (bs : Nat → Int32) (left : Int32) : Nat → Nat → Int32 → Int32
  | _, 0, a => a
  | j, d + 1, a => if a &&& (if nI j = left then 0 else bs j) = 0 then gab bs left (j + 1) d (a ||| (if nI j = left then 0 else bs j)) else -9
def ggt (ts : Nat → Int32) (b : Int32) (N : Nat) : Int32 := gfor (fun j a => if (b >>> (nI j &&& 31)) &&& 1 = 0 then a else (if a < gtl ts (nI j) 0 N 0 then gtl ts (nI j) 0 N 0 else a)) 0 (N + 1) 0
def gpr (kr : Nat → Int32) (gt : Nat → Int32) (K : Nat) : Int32 := gfor (fun c a => a + gof kr 30 (nI c * 5 + 4) * gt c) 0 K 0
def gbr (bc : Nat → Nat) (taken : Int32) : Nat → Nat → Int32 → Int32
  | _, 0, m => m
  | j, d + 1, m => if (taken >>> (nI (bc j) &&& 31)) &&& 1 = 0 then gbr bc taken (j + 1) d (nI j) else m
def gst (ts : Nat → Int32) (N : Nat) (d v e : Int32) : Int32 := gfor (fun j a => if gfall (ts (3 * j)) (ts (3 * j + 1)) 0 d v e = true then a ||| (1 <<< (nI j &&& 31)) else a) 0 N 0
section TA
variable {X : gX} {n k : Nat} {w : gH} {Q : Option Value → Nat → Nat → gH → Prop} {t : Nat} {kr ts co : Nat → Int32} {kc tc rm jm : Int32} {K N : Nat} {We : Nat → Nat}
theorem c_tollTo (hN : N ≤ 6) (hT : isTr w t kr ts co kc (nI N) rm jm) {b : Int32} : gEv (gT X) 73 0 [.ref t, .int b, .null, .null] [] n k w Q ↔ Q (some (.int (gtl ts b 0 N 0))) n k w := by
  have h0 := hT.1
  have loop : ∀ (D j : Nat) (a : Int32), j + D = N → (gEv (gT X) 73 4 [.ref t, .int b, .int a, .int (nI j)] [] n k w Q ↔ Q (some (.int (gtl ts b j D a))) n k w) := by
    intro D
    induction D with
    | zero =>
      intro j a hj
      have hc : nI N ≤ nI j := nI_le (by omega) (by omega)
      rw [eX3_tollTo_4]
      simp only [eX3_tollTo_0, eX3_tollTo_1, eX3_tollTo_1b, eX3_tollTo_1c, eX3_tollTo_1d, eX3_tollTo_2, eX3_tollTo_3, eX3_tollTo_3b, eX3_tollTo_3c, eX3_tollTo_3d, eX3_tollTo_5, eX3_tollTo_6, eX3_tollTo_9, eX3_tollTo_12, eX3_tollTo_13, eX3_tollTo_14, eX3_tollTo_17, eX3_tollTo_18, eX3_tollTo_19, eX3_tollTo_20, eX3_tollTo_21, eX3_tollTo_24, eX3_tollTo_25, eX3_tollTo_25b, eX3_tollTo_25c, eX3_tollTo_25d, eX3_tollTo_26, eX3_tollTo_26b, eX3_tollTo_26c, eX3_tollTo_26d, eX3_tollTo_29, eX3_tollTo_32, eX3_tollTo_33, Option.toList_some, Option.toList_none, List.cons_append, List.nil_append, gcat_nil, gcat_cons, cat_int, cat_ref, cat_null, cat_ret, cat_long, grc_ref, narZ0, narZ1, true_and, and_true, decide_true, Nat.reduceAdd, Nat.reduceLeDiff, if_true, if_false, eq_self, gfld_in, gobj_in, garr_in, garq_in, glen_in, gisO_in, ex_some, List.getElem?_cons_succ, List.getElem?_cons_zero, List.length_cons, List.length_nil, List.set_cons_succ, List.set_cons_zero, Nat.reduceLT, va_up_eq, va_up_nl, h0, hc]
      rfl
    | succ D ih =>
      intro j a hj
      have hc : ¬ nI N ≤ nI j := nI_ge (by omega) (by omega)
      rw [eX3_tollTo_4]
      simp only [eX3_tollTo_0, eX3_tollTo_1, eX3_tollTo_1b, eX3_tollTo_1c, eX3_tollTo_1d, eX3_tollTo_2, eX3_tollTo_3, eX3_tollTo_3b, eX3_tollTo_3c, eX3_tollTo_3d, eX3_tollTo_5, eX3_tollTo_6, eX3_tollTo_9, eX3_tollTo_12, eX3_tollTo_13, eX3_tollTo_14, eX3_tollTo_17, eX3_tollTo_18, eX3_tollTo_19, eX3_tollTo_20, eX3_tollTo_21, eX3_tollTo_24, eX3_tollTo_25, eX3_tollTo_25b, eX3_tollTo_25c, eX3_tollTo_25d, eX3_tollTo_26, eX3_tollTo_26b, eX3_tollTo_26c, eX3_tollTo_26d, eX3_tollTo_29, eX3_tollTo_32, eX3_tollTo_33, Option.toList_some, Option.toList_none, List.cons_append, List.nil_append, gcat_nil, gcat_cons, cat_int, cat_ref, cat_null, cat_ret, cat_long, grc_ref, narZ0, narZ1, true_and, and_true, decide_true, Nat.reduceAdd, Nat.reduceLeDiff, if_true, if_false, eq_self, gfld_in, gobj_in, garr_in, garq_in, glen_in, gisO_in, ex_some, List.getElem?_cons_succ, List.getElem?_cons_zero, List.length_cons, List.length_nil, List.set_cons_succ, List.set_cons_zero, Nat.reduceLT, va_up_eq, va_up_nl, h0, hc, c_ofTest hT, nI_1, ih (j + 1) _ (by omega)]
      rw [gtl]
      by_cases q : b < nI j
      · rw [if_pos q, if_pos q]
      · rw [if_neg q, if_neg q]
  simp only [eX3_tollTo_0, eX3_tollTo_1, eX3_tollTo_1b, eX3_tollTo_1c, eX3_tollTo_1d, eX3_tollTo_2, eX3_tollTo_3, eX3_tollTo_3b, eX3_tollTo_3c, eX3_tollTo_3d, eX3_tollTo_5, eX3_tollTo_6, eX3_tollTo_9, eX3_tollTo_12, eX3_tollTo_13, eX3_tollTo_14, eX3_tollTo_17, eX3_tollTo_18, eX3_tollTo_19, eX3_tollTo_20, eX3_tollTo_21, eX3_tollTo_24, eX3_tollTo_25, eX3_tollTo_25b, eX3_tollTo_25c, eX3_tollTo_25d, eX3_tollTo_26, eX3_tollTo_26b, eX3_tollTo_26c, eX3_tollTo_26d, eX3_tollTo_29, eX3_tollTo_32, eX3_tollTo_33, Option.toList_some, Option.toList_none, List.cons_append, List.nil_append, gcat_nil, gcat_cons, cat_int, cat_ref, cat_null, cat_ret, cat_long, grc_ref, narZ0, narZ1, true_and, and_true, decide_true, Nat.reduceAdd, Nat.reduceLeDiff, if_true, if_false, eq_self, gfld_in, gobj_in, garr_in, garq_in, glen_in, gisO_in, ex_some, List.getElem?_cons_succ, List.getElem?_cons_zero, List.length_cons, List.length_nil, List.set_cons_succ, List.set_cons_zero, Nat.reduceLT, va_up_eq, va_up_nl]
  exact loop N 0 0 (by omega)
theorem c_kindsOf (hN : N ≤ 6) (hK : K ≤ 6) (hT : isTr w t kr ts co (nI K) (nI N) rm jm) (hW : ∀ c, c < K → gof kr 30 (nI c * 5 + 3) = nI (We c) ∧ We c < 100) {b : Int32} : gEv (gT X) 68 0 [.ref t, .int b, .null, .null] [] n k w Q ↔ Q (some (.int (gks (fun c => gbs kr ts N (nI c) (We c)) b K))) n k w := by
  have h0 := hT.1
  have loop : ∀ (D j : Nat) (a : Int32), j + D = K → (gEv (gT X) 68 4 [.ref t, .int b, .int a, .int (nI j)] [] n k w Q ↔ Q (some (.int (gfor (fun c a => if (gbs kr ts N (nI c) (We c) >>> (b &&& 31)) &&& 1 = 0 then a else a ||| (1 <<< (nI c &&& 31))) j D a))) n k w) := by
    intro D
    induction D with
    | zero =>
      intro j a hj
      have hc : nI K ≤ nI j := nI_le (by omega) (by omega)
      rw [eX3_kindsOf_4]
      simp only [eX3_kindsOf_0, eX3_kindsOf_1, eX3_kindsOf_1b, eX3_kindsOf_1c, eX3_kindsOf_1d, eX3_kindsOf_2, eX3_kindsOf_3, eX3_kindsOf_3b, eX3_kindsOf_3c, eX3_kindsOf_3d, eX3_kindsOf_5, eX3_kindsOf_6, eX3_kindsOf_9, eX3_kindsOf_12, eX3_kindsOf_13, eX3_kindsOf_14, eX3_kindsOf_17, eX3_kindsOf_18, eX3_kindsOf_19, eX3_kindsOf_20, eX3_kindsOf_21, eX3_kindsOf_24, eX3_kindsOf_25, eX3_kindsOf_26, eX3_kindsOf_27, eX3_kindsOf_28, eX3_kindsOf_29, eX3_kindsOf_29b, eX3_kindsOf_29c, eX3_kindsOf_29d, eX3_kindsOf_30, eX3_kindsOf_30b, eX3_kindsOf_30c, eX3_kindsOf_30d, eX3_kindsOf_33, eX3_kindsOf_36, eX3_kindsOf_37, Option.toList_some, Option.toList_none, List.cons_append, List.nil_append, gcat_nil, gcat_cons, cat_int, cat_ref, cat_null, cat_ret, cat_long, grc_ref, narZ0, narZ1, true_and, and_true, decide_true, Nat.reduceAdd, Nat.reduceLeDiff, if_true, if_false, eq_self, gfld_in, gobj_in, garr_in, garq_in, glen_in, gisO_in, ex_some, List.getElem?_cons_succ, List.getElem?_cons_zero, List.length_cons, List.length_nil, List.set_cons_succ, List.set_cons_zero, Nat.reduceLT, va_up_eq, va_up_nl, h0, hc]
      rfl
    | succ D ih =>
      intro j a hj
      have hc : ¬ nI K ≤ nI j := nI_ge (by omega) (by omega)
      have hw := hW j (by omega)
      rw [eX3_kindsOf_4]
      simp only [eX3_kindsOf_0, eX3_kindsOf_1, eX3_kindsOf_1b, eX3_kindsOf_1c, eX3_kindsOf_1d, eX3_kindsOf_2, eX3_kindsOf_3, eX3_kindsOf_3b, eX3_kindsOf_3c, eX3_kindsOf_3d, eX3_kindsOf_5, eX3_kindsOf_6, eX3_kindsOf_9, eX3_kindsOf_12, eX3_kindsOf_13, eX3_kindsOf_14, eX3_kindsOf_17, eX3_kindsOf_18, eX3_kindsOf_19, eX3_kindsOf_20, eX3_kindsOf_21, eX3_kindsOf_24, eX3_kindsOf_25, eX3_kindsOf_26, eX3_kindsOf_27, eX3_kindsOf_28, eX3_kindsOf_29, eX3_kindsOf_29b, eX3_kindsOf_29c, eX3_kindsOf_29d, eX3_kindsOf_30, eX3_kindsOf_30b, eX3_kindsOf_30c, eX3_kindsOf_30d, eX3_kindsOf_33, eX3_kindsOf_36, eX3_kindsOf_37, Option.toList_some, Option.toList_none, List.cons_append, List.nil_append, gcat_nil, gcat_cons, cat_int, cat_ref, cat_null, cat_ret, cat_long, grc_ref, narZ0, narZ1, true_and, and_true, decide_true, Nat.reduceAdd, Nat.reduceLeDiff, if_true, if_false, eq_self, gfld_in, gobj_in, garr_in, garq_in, glen_in, gisO_in, ex_some, List.getElem?_cons_succ, List.getElem?_cons_zero, List.length_cons, List.length_nil, List.set_cons_succ, List.set_cons_zero, Nat.reduceLT, va_up_eq, va_up_nl, h0, hc, c_binsOf hN hT hw.1 hw.2, nI_1, ih (j + 1) _ (by omega)]
      rw [gfor]
      by_cases q : (gbs kr ts N (nI j) (We j) >>> (b &&& 31)) &&& 1 = 0
      · rw [if_pos q, if_pos q]
      · rw [if_neg q, if_neg q]
  simp only [eX3_kindsOf_0, eX3_kindsOf_1, eX3_kindsOf_1b, eX3_kindsOf_1c, eX3_kindsOf_1d, eX3_kindsOf_2, eX3_kindsOf_3, eX3_kindsOf_3b, eX3_kindsOf_3c, eX3_kindsOf_3d, eX3_kindsOf_5, eX3_kindsOf_6, eX3_kindsOf_9, eX3_kindsOf_12, eX3_kindsOf_13, eX3_kindsOf_14, eX3_kindsOf_17, eX3_kindsOf_18, eX3_kindsOf_19, eX3_kindsOf_20, eX3_kindsOf_21, eX3_kindsOf_24, eX3_kindsOf_25, eX3_kindsOf_26, eX3_kindsOf_27, eX3_kindsOf_28, eX3_kindsOf_29, eX3_kindsOf_29b, eX3_kindsOf_29c, eX3_kindsOf_29d, eX3_kindsOf_30, eX3_kindsOf_30b, eX3_kindsOf_30c, eX3_kindsOf_30d, eX3_kindsOf_33, eX3_kindsOf_36, eX3_kindsOf_37, Option.toList_some, Option.toList_none, List.cons_append, List.nil_append, gcat_nil, gcat_cons, cat_int, cat_ref, cat_null, cat_ret, cat_long, grc_ref, narZ0, narZ1, true_and, and_true, decide_true, Nat.reduceAdd, Nat.reduceLeDiff, if_true, if_false, eq_self, gfld_in, gobj_in, garr_in, garq_in, glen_in, gisO_in, ex_some, List.getElem?_cons_succ, List.getElem?_cons_zero, List.length_cons, List.length_nil, List.set_cons_succ, List.set_cons_zero, Nat.reduceLT, va_up_eq, va_up_nl]
  exact loop K 0 0 (by omega)
theorem c_doubtful (hN : N ≤ 6) (hK : K ≤ 6) (hT : isTr w t kr ts co (nI K) (nI N) rm jm) (hW : ∀ c, c < K → gof kr 30 (nI c * 5 + 3) = nI (We c) ∧ We c < 100) : gEv (gT X) 72 0 [.ref t, .null, .null, .null] [] n k w Q ↔ Q (some (.int (gdb (fun c => gbs kr ts N (nI c) (We c)) K))) n k w := by
  have h0 := hT.1
  have loop : ∀ (D j : Nat) (a : Int32) (v3 : Value), j + D = K → (gEv (gT X) 72 4 [.ref t, .int a, .int (nI j), v3] [] n k w Q ↔ Q (some (.int (gfor (fun c a => if gbs kr ts N (nI c) (We c) &&& (gbs kr ts N (nI c) (We c) - 1) = 0 then a else a ||| (1 <<< (nI c &&& 31))) j D a))) n k w) := by
    intro D
    induction D with
    | zero =>
      intro j a v3 hj
      have hc : nI K ≤ nI j := nI_le (by omega) (by omega)
      rw [eX3_doubtful_4]
      simp only [eX3_doubtful_0, eX3_doubtful_1, eX3_doubtful_1b, eX3_doubtful_1c, eX3_doubtful_1d, eX3_doubtful_2, eX3_doubtful_3, eX3_doubtful_3b, eX3_doubtful_3c, eX3_doubtful_3d, eX3_doubtful_5, eX3_doubtful_6, eX3_doubtful_9, eX3_doubtful_12, eX3_doubtful_13, eX3_doubtful_14, eX3_doubtful_17, eX3_doubtful_17b, eX3_doubtful_17c, eX3_doubtful_17d, eX3_doubtful_18, eX3_doubtful_19, eX3_doubtful_22, eX3_doubtful_25, eX3_doubtful_26, eX3_doubtful_27, eX3_doubtful_28, eX3_doubtful_29, eX3_doubtful_30, eX3_doubtful_30b, eX3_doubtful_30c, eX3_doubtful_30d, eX3_doubtful_31, eX3_doubtful_31b, eX3_doubtful_31c, eX3_doubtful_31d, eX3_doubtful_34, eX3_doubtful_37, eX3_doubtful_38, Option.toList_some, Option.toList_none, List.cons_append, List.nil_append, gcat_nil, gcat_cons, cat_int, cat_ref, cat_null, cat_ret, cat_long, grc_ref, narZ0, narZ1, true_and, and_true, decide_true, Nat.reduceAdd, Nat.reduceLeDiff, if_true, if_false, eq_self, gfld_in, gobj_in, garr_in, garq_in, glen_in, gisO_in, ex_some, List.getElem?_cons_succ, List.getElem?_cons_zero, List.length_cons, List.length_nil, List.set_cons_succ, List.set_cons_zero, Nat.reduceLT, va_up_eq, va_up_nl, h0, hc]
      rfl
    | succ D ih =>
      intro j a v3 hj
      have hc : ¬ nI K ≤ nI j := nI_ge (by omega) (by omega)
      have hw := hW j (by omega)
      rw [eX3_doubtful_4]
      simp only [eX3_doubtful_0, eX3_doubtful_1, eX3_doubtful_1b, eX3_doubtful_1c, eX3_doubtful_1d, eX3_doubtful_2, eX3_doubtful_3, eX3_doubtful_3b, eX3_doubtful_3c, eX3_doubtful_3d, eX3_doubtful_5, eX3_doubtful_6, eX3_doubtful_9, eX3_doubtful_12, eX3_doubtful_13, eX3_doubtful_14, eX3_doubtful_17, eX3_doubtful_17b, eX3_doubtful_17c, eX3_doubtful_17d, eX3_doubtful_18, eX3_doubtful_19, eX3_doubtful_22, eX3_doubtful_25, eX3_doubtful_26, eX3_doubtful_27, eX3_doubtful_28, eX3_doubtful_29, eX3_doubtful_30, eX3_doubtful_30b, eX3_doubtful_30c, eX3_doubtful_30d, eX3_doubtful_31, eX3_doubtful_31b, eX3_doubtful_31c, eX3_doubtful_31d, eX3_doubtful_34, eX3_doubtful_37, eX3_doubtful_38, Option.toList_some, Option.toList_none, List.cons_append, List.nil_append, gcat_nil, gcat_cons, cat_int, cat_ref, cat_null, cat_ret, cat_long, grc_ref, narZ0, narZ1, true_and, and_true, decide_true, Nat.reduceAdd, Nat.reduceLeDiff, if_true, if_false, eq_self, gfld_in, gobj_in, garr_in, garq_in, glen_in, gisO_in, ex_some, List.getElem?_cons_succ, List.getElem?_cons_zero, List.length_cons, List.length_nil, List.set_cons_succ, List.set_cons_zero, Nat.reduceLT, va_up_eq, va_up_nl, h0, hc, c_binsOf hN hT hw.1 hw.2, c_isOneAtMost, gb_0, nI_1, ih (j + 1) _ _ (by omega)]
      rw [gfor]
      by_cases q : gbs kr ts N (nI j) (We j) &&& (gbs kr ts N (nI j) (We j) - 1) = 0
      · rw [if_pos (fun z => z q), if_pos q]
      · rw [if_neg (fun z => z q), if_neg q]
  simp only [eX3_doubtful_0, eX3_doubtful_1, eX3_doubtful_1b, eX3_doubtful_1c, eX3_doubtful_1d, eX3_doubtful_2, eX3_doubtful_3, eX3_doubtful_3b, eX3_doubtful_3c, eX3_doubtful_3d, eX3_doubtful_5, eX3_doubtful_6, eX3_doubtful_9, eX3_doubtful_12, eX3_doubtful_13, eX3_doubtful_14, eX3_doubtful_17, eX3_doubtful_17b, eX3_doubtful_17c, eX3_doubtful_17d, eX3_doubtful_18, eX3_doubtful_19, eX3_doubtful_22, eX3_doubtful_25, eX3_doubtful_26, eX3_doubtful_27, eX3_doubtful_28, eX3_doubtful_29, eX3_doubtful_30, eX3_doubtful_30b, eX3_doubtful_30c, eX3_doubtful_30d, eX3_doubtful_31, eX3_doubtful_31b, eX3_doubtful_31c, eX3_doubtful_31d, eX3_doubtful_34, eX3_doubtful_37, eX3_doubtful_38, Option.toList_some, Option.toList_none, List.cons_append, List.nil_append, gcat_nil, gcat_cons, cat_int, cat_ref, cat_null, cat_ret, cat_long, grc_ref, narZ0, narZ1, true_and, and_true, decide_true, Nat.reduceAdd, Nat.reduceLeDiff, if_true, if_false, eq_self, gfld_in, gobj_in, garr_in, garq_in, glen_in, gisO_in, ex_some, List.getElem?_cons_succ, List.getElem?_cons_zero, List.length_cons, List.length_nil, List.set_cons_succ, List.set_cons_zero, Nat.reduceLT, va_up_eq, va_up_nl]
  exact loop K 0 0 _ (by omega)
theorem c_binsOfAllBut (hN : N ≤ 6) (hK : K ≤ 6) (hT : isTr w t kr ts co (nI K) (nI N) rm jm) (hW : ∀ c, c < K → gof kr 30 (nI c * 5 + 3) = nI (We c) ∧ We c < 100) {l : Int32} : gEv (gT X) 70 0 [.ref t, .int l, .null, .null, .null] [] n k w Q ↔ Q (some (.int (gab (fun c => gbs kr ts N (nI c) (We c)) l 0 K 0))) n k w := by
  have h0 := hT.1
  have loop : ∀ (D j : Nat) (a : Int32) (v4 : Value), j + D = K → (gEv (gT X) 70 4 [.ref t, .int l, .int a, .int (nI j), v4] [] n k w Q ↔ Q (some (.int (gab (fun c => gbs kr ts N (nI c) (We c)) l j D a))) n k w) := by
    intro D
    induction D with
    | zero =>
      intro j a v4 hj
      have hc : nI K ≤ nI j := nI_le (by omega) (by omega)
      rw [eX3_binsOfAllBut_4]
      simp only [eX3_binsOfAllBut_0, eX3_binsOfAllBut_1, eX3_binsOfAllBut_1b, eX3_binsOfAllBut_1c, eX3_binsOfAllBut_1d, eX3_binsOfAllBut_2, eX3_binsOfAllBut_3, eX3_binsOfAllBut_3b, eX3_binsOfAllBut_3c, eX3_binsOfAllBut_3d, eX3_binsOfAllBut_5, eX3_binsOfAllBut_6, eX3_binsOfAllBut_9, eX3_binsOfAllBut_12, eX3_binsOfAllBut_13, eX3_binsOfAllBut_14, eX3_binsOfAllBut_17, eX3_binsOfAllBut_18, eX3_binsOfAllBut_21, eX3_binsOfAllBut_22, eX3_binsOfAllBut_23, eX3_binsOfAllBut_26, eX3_binsOfAllBut_26b, eX3_binsOfAllBut_26c, eX3_binsOfAllBut_26d, eX3_binsOfAllBut_28, eX3_binsOfAllBut_29, eX3_binsOfAllBut_31, eX3_binsOfAllBut_32, eX3_binsOfAllBut_35, eX3_binsOfAllBut_37, eX3_binsOfAllBut_38, eX3_binsOfAllBut_39, eX3_binsOfAllBut_41, eX3_binsOfAllBut_42, eX3_binsOfAllBut_42b, eX3_binsOfAllBut_42c, eX3_binsOfAllBut_42d, eX3_binsOfAllBut_43, eX3_binsOfAllBut_43b, eX3_binsOfAllBut_43c, eX3_binsOfAllBut_43d, eX3_binsOfAllBut_46, eX3_binsOfAllBut_49, eX3_binsOfAllBut_50, Option.toList_some, Option.toList_none, List.cons_append, List.nil_append, gcat_nil, gcat_cons, cat_int, cat_ref, cat_null, cat_ret, cat_long, grc_ref, narZ0, narZ1, true_and, and_true, decide_true, Nat.reduceAdd, Nat.reduceLeDiff, if_true, if_false, eq_self, gfld_in, gobj_in, garr_in, garq_in, glen_in, gisO_in, ex_some, List.getElem?_cons_succ, List.getElem?_cons_zero, List.length_cons, List.length_nil, List.set_cons_succ, List.set_cons_zero, Nat.reduceLT, va_up_eq, va_up_nl, h0, hc]
      rfl
    | succ D ih =>
      intro j a v4 hj
      have hc : ¬ nI K ≤ nI j := nI_ge (by omega) (by omega)
      have hw := hW j (by omega)
      rw [eX3_binsOfAllBut_4]
      simp only [eX3_binsOfAllBut_0, eX3_binsOfAllBut_1, eX3_binsOfAllBut_1b, eX3_binsOfAllBut_1c, eX3_binsOfAllBut_1d, eX3_binsOfAllBut_2, eX3_binsOfAllBut_3, eX3_binsOfAllBut_3b, eX3_binsOfAllBut_3c, eX3_binsOfAllBut_3d, eX3_binsOfAllBut_5, eX3_binsOfAllBut_6, eX3_binsOfAllBut_9, eX3_binsOfAllBut_12, eX3_binsOfAllBut_13, eX3_binsOfAllBut_14, eX3_binsOfAllBut_17, eX3_binsOfAllBut_18, eX3_binsOfAllBut_21, eX3_binsOfAllBut_22, eX3_binsOfAllBut_23, eX3_binsOfAllBut_26, eX3_binsOfAllBut_26b, eX3_binsOfAllBut_26c, eX3_binsOfAllBut_26d, eX3_binsOfAllBut_28, eX3_binsOfAllBut_29, eX3_binsOfAllBut_31, eX3_binsOfAllBut_32, eX3_binsOfAllBut_35, eX3_binsOfAllBut_37, eX3_binsOfAllBut_38, eX3_binsOfAllBut_39, eX3_binsOfAllBut_41, eX3_binsOfAllBut_42, eX3_binsOfAllBut_42b, eX3_binsOfAllBut_42c, eX3_binsOfAllBut_42d, eX3_binsOfAllBut_43, eX3_binsOfAllBut_43b, eX3_binsOfAllBut_43c, eX3_binsOfAllBut_43d, eX3_binsOfAllBut_46, eX3_binsOfAllBut_49, eX3_binsOfAllBut_50, Option.toList_some, Option.toList_none, List.cons_append, List.nil_append, gcat_nil, gcat_cons, cat_int, cat_ref, cat_null, cat_ret, cat_long, grc_ref, narZ0, narZ1, true_and, and_true, decide_true, Nat.reduceAdd, Nat.reduceLeDiff, if_true, if_false, eq_self, gfld_in, gobj_in, garr_in, garq_in, glen_in, gisO_in, ex_some, List.getElem?_cons_succ, List.getElem?_cons_zero, List.length_cons, List.length_nil, List.set_cons_succ, List.set_cons_zero, Nat.reduceLT, va_up_eq, va_up_nl, h0, hc, c_binsOf hN hT hw.1 hw.2, nI_1, ih (j + 1) _ _ (by omega)]
      rw [gab]
      by_cases q : nI j = l
      · simp only [q, not_true_eq_false, if_false, if_true]
        by_cases q2 : a &&& 0 = 0
        · rw [if_pos q2, if_pos q2]
        · rw [if_neg q2, if_neg q2]
      · simp only [q, not_false_eq_true, if_true, if_false]
        by_cases q2 : a &&& gbs kr ts N (nI j) (We j) = 0
        · rw [if_pos q2, if_pos q2]
        · rw [if_neg q2, if_neg q2]
  simp only [eX3_binsOfAllBut_0, eX3_binsOfAllBut_1, eX3_binsOfAllBut_1b, eX3_binsOfAllBut_1c, eX3_binsOfAllBut_1d, eX3_binsOfAllBut_2, eX3_binsOfAllBut_3, eX3_binsOfAllBut_3b, eX3_binsOfAllBut_3c, eX3_binsOfAllBut_3d, eX3_binsOfAllBut_5, eX3_binsOfAllBut_6, eX3_binsOfAllBut_9, eX3_binsOfAllBut_12, eX3_binsOfAllBut_13, eX3_binsOfAllBut_14, eX3_binsOfAllBut_17, eX3_binsOfAllBut_18, eX3_binsOfAllBut_21, eX3_binsOfAllBut_22, eX3_binsOfAllBut_23, eX3_binsOfAllBut_26, eX3_binsOfAllBut_26b, eX3_binsOfAllBut_26c, eX3_binsOfAllBut_26d, eX3_binsOfAllBut_28, eX3_binsOfAllBut_29, eX3_binsOfAllBut_31, eX3_binsOfAllBut_32, eX3_binsOfAllBut_35, eX3_binsOfAllBut_37, eX3_binsOfAllBut_38, eX3_binsOfAllBut_39, eX3_binsOfAllBut_41, eX3_binsOfAllBut_42, eX3_binsOfAllBut_42b, eX3_binsOfAllBut_42c, eX3_binsOfAllBut_42d, eX3_binsOfAllBut_43, eX3_binsOfAllBut_43b, eX3_binsOfAllBut_43c, eX3_binsOfAllBut_43d, eX3_binsOfAllBut_46, eX3_binsOfAllBut_49, eX3_binsOfAllBut_50, Option.toList_some, Option.toList_none, List.cons_append, List.nil_append, gcat_nil, gcat_cons, cat_int, cat_ref, cat_null, cat_ret, cat_long, grc_ref, narZ0, narZ1, true_and, and_true, decide_true, Nat.reduceAdd, Nat.reduceLeDiff, if_true, if_false, eq_self, gfld_in, gobj_in, garr_in, garq_in, glen_in, gisO_in, ex_some, List.getElem?_cons_succ, List.getElem?_cons_zero, List.length_cons, List.length_nil, List.set_cons_succ, List.set_cons_zero, Nat.reduceLT, va_up_eq, va_up_nl]
  exact loop K 0 0 _ (by omega)
theorem c_apart (hN : N ≤ 6) (hK : K ≤ 6) (hT : isTr w t kr ts co (nI K) (nI N) rm jm) (hW : ∀ c, c < K → gof kr 30 (nI c * 5 + 3) = nI (We c) ∧ We c < 100) : gEv (gT X) 69 0 [.ref t] [] n k w Q ↔ Q (some (.int (gb (¬ gab (fun c => gbs kr ts N (nI c) (We c)) (-1) 0 K 0 = -9)))) n k w := by
  have h0 := hT.1
  simp only [eX3_apart_0, eX3_apart_1, eX3_apart_2, eX3_apart_5, eX3_apart_7, eX3_apart_10, eX3_apart_11, eX3_apart_14, eX3_apart_15, Option.toList_some, Option.toList_none, List.cons_append, List.nil_append, gcat_nil, gcat_cons, cat_int, cat_ref, cat_null, cat_ret, cat_long, grc_ref, narZ0, narZ1, true_and, and_true, decide_true, Nat.reduceAdd, Nat.reduceLeDiff, if_true, if_false, eq_self, gfld_in, gobj_in, garr_in, garq_in, glen_in, gisO_in, ex_some, List.getElem?_cons_succ, List.getElem?_cons_zero, List.length_cons, List.length_nil, List.set_cons_succ, List.set_cons_zero, Nat.reduceLT, va_up_eq, va_up_nl, h0, c_binsOfAllBut hN hK hT hW]
  by_cases q : gab (fun c => gbs kr ts N (nI c) (We c)) (-1) 0 K 0 = -9
  · rw [if_pos q, gb_f (fun z => z q)]
  · rw [if_neg q, gb_t q]
theorem c_greatestToll (hN : N ≤ 6) (hT : isTr w t kr ts co kc (nI N) rm jm) {a : Int32} {wr : Nat} (hw : gof kr 30 (a * 5 + 3) = nI wr) (hw9 : wr < 100) : gEv (gT X) 74 0 [.ref t, .int a, .null, .null, .null] [] n k w Q ↔ Q (some (.int (ggt ts (gbs kr ts N a wr) N))) n k w := by
  have h0 := hT.1
  have loop : ∀ (D j : Nat) (b : Int32), j + D = N + 1 → (gEv (gT X) 74 11 [.ref t, .int a, .int (gbs kr ts N a wr), .int b, .int (nI j)] [] n k w Q ↔ Q (some (.int (gfor (fun j b => if (gbs kr ts N a wr >>> (nI j &&& 31)) &&& 1 = 0 then b else (if b < gtl ts (nI j) 0 N 0 then gtl ts (nI j) 0 N 0 else b)) j D b))) n k w) := by
    intro D
    induction D with
    | zero =>
      intro j b hj
      have hc : nI N < nI j := nI_lt (by omega) (by omega)
      rw [eX3_greatestToll_11]
      simp only [eX3_greatestToll_0, eX3_greatestToll_1, eX3_greatestToll_2, eX3_greatestToll_5, eX3_greatestToll_5b, eX3_greatestToll_5c, eX3_greatestToll_5d, eX3_greatestToll_6, eX3_greatestToll_7, eX3_greatestToll_7b, eX3_greatestToll_7c, eX3_greatestToll_7d, eX3_greatestToll_8, eX3_greatestToll_9, eX3_greatestToll_9b, eX3_greatestToll_9c, eX3_greatestToll_9d, eX3_greatestToll_13, eX3_greatestToll_14, eX3_greatestToll_17, eX3_greatestToll_20, eX3_greatestToll_21, eX3_greatestToll_23, eX3_greatestToll_24, eX3_greatestToll_25, eX3_greatestToll_26, eX3_greatestToll_29, eX3_greatestToll_30, eX3_greatestToll_31, eX3_greatestToll_33, eX3_greatestToll_36, eX3_greatestToll_39, eX3_greatestToll_39b, eX3_greatestToll_39c, eX3_greatestToll_39d, eX3_greatestToll_40, eX3_greatestToll_40b, eX3_greatestToll_40c, eX3_greatestToll_40d, eX3_greatestToll_43, eX3_greatestToll_46, eX3_greatestToll_47, Option.toList_some, Option.toList_none, List.cons_append, List.nil_append, gcat_nil, gcat_cons, cat_int, cat_ref, cat_null, cat_ret, cat_long, grc_ref, narZ0, narZ1, true_and, and_true, decide_true, Nat.reduceAdd, Nat.reduceLeDiff, if_true, if_false, eq_self, gfld_in, gobj_in, garr_in, garq_in, glen_in, gisO_in, ex_some, List.getElem?_cons_succ, List.getElem?_cons_zero, List.length_cons, List.length_nil, List.set_cons_succ, List.set_cons_zero, Nat.reduceLT, va_up_eq, va_up_nl, h0, hc]
      rfl
    | succ D ih =>
      intro j b hj
      have hc : ¬ nI N < nI j := nI_nlt (by omega) (by omega)
      rw [eX3_greatestToll_11]
      simp only [eX3_greatestToll_0, eX3_greatestToll_1, eX3_greatestToll_2, eX3_greatestToll_5, eX3_greatestToll_5b, eX3_greatestToll_5c, eX3_greatestToll_5d, eX3_greatestToll_6, eX3_greatestToll_7, eX3_greatestToll_7b, eX3_greatestToll_7c, eX3_greatestToll_7d, eX3_greatestToll_8, eX3_greatestToll_9, eX3_greatestToll_9b, eX3_greatestToll_9c, eX3_greatestToll_9d, eX3_greatestToll_13, eX3_greatestToll_14, eX3_greatestToll_17, eX3_greatestToll_20, eX3_greatestToll_21, eX3_greatestToll_23, eX3_greatestToll_24, eX3_greatestToll_25, eX3_greatestToll_26, eX3_greatestToll_29, eX3_greatestToll_30, eX3_greatestToll_31, eX3_greatestToll_33, eX3_greatestToll_36, eX3_greatestToll_39, eX3_greatestToll_39b, eX3_greatestToll_39c, eX3_greatestToll_39d, eX3_greatestToll_40, eX3_greatestToll_40b, eX3_greatestToll_40c, eX3_greatestToll_40d, eX3_greatestToll_43, eX3_greatestToll_46, eX3_greatestToll_47, Option.toList_some, Option.toList_none, List.cons_append, List.nil_append, gcat_nil, gcat_cons, cat_int, cat_ref, cat_null, cat_ret, cat_long, grc_ref, narZ0, narZ1, true_and, and_true, decide_true, Nat.reduceAdd, Nat.reduceLeDiff, if_true, if_false, eq_self, gfld_in, gobj_in, garr_in, garq_in, glen_in, gisO_in, ex_some, List.getElem?_cons_succ, List.getElem?_cons_zero, List.length_cons, List.length_nil, List.set_cons_succ, List.set_cons_zero, Nat.reduceLT, va_up_eq, va_up_nl, h0, hc, c_tollTo hN hT, nI_1, ih (j + 1) _ (by omega)]
      rw [gfor]
      by_cases q : (gbs kr ts N a wr >>> (nI j &&& 31)) &&& 1 = 0
      · rw [if_pos q, if_pos q]
      · rw [if_neg q, if_neg q]
  simp only [eX3_greatestToll_0, eX3_greatestToll_1, eX3_greatestToll_2, eX3_greatestToll_5, eX3_greatestToll_5b, eX3_greatestToll_5c, eX3_greatestToll_5d, eX3_greatestToll_6, eX3_greatestToll_7, eX3_greatestToll_7b, eX3_greatestToll_7c, eX3_greatestToll_7d, eX3_greatestToll_8, eX3_greatestToll_9, eX3_greatestToll_9b, eX3_greatestToll_9c, eX3_greatestToll_9d, eX3_greatestToll_13, eX3_greatestToll_14, eX3_greatestToll_17, eX3_greatestToll_20, eX3_greatestToll_21, eX3_greatestToll_23, eX3_greatestToll_24, eX3_greatestToll_25, eX3_greatestToll_26, eX3_greatestToll_29, eX3_greatestToll_30, eX3_greatestToll_31, eX3_greatestToll_33, eX3_greatestToll_36, eX3_greatestToll_39, eX3_greatestToll_39b, eX3_greatestToll_39c, eX3_greatestToll_39d, eX3_greatestToll_40, eX3_greatestToll_40b, eX3_greatestToll_40c, eX3_greatestToll_40d, eX3_greatestToll_43, eX3_greatestToll_46, eX3_greatestToll_47, Option.toList_some, Option.toList_none, List.cons_append, List.nil_append, gcat_nil, gcat_cons, cat_int, cat_ref, cat_null, cat_ret, cat_long, grc_ref, narZ0, narZ1, true_and, and_true, decide_true, Nat.reduceAdd, Nat.reduceLeDiff, if_true, if_false, eq_self, gfld_in, gobj_in, garr_in, garq_in, glen_in, gisO_in, ex_some, List.getElem?_cons_succ, List.getElem?_cons_zero, List.length_cons, List.length_nil, List.set_cons_succ, List.set_cons_zero, Nat.reduceLT, va_up_eq, va_up_nl, h0, c_binsOf hN hT hw hw9]
  exact loop (N + 1) 0 0 (by omega)
theorem c_price (hN : N ≤ 6) (hK : K ≤ 6) (hT : isTr w t kr ts co (nI K) (nI N) rm jm) (hW : ∀ c, c < K → gof kr 30 (nI c * 5 + 3) = nI (We c) ∧ We c < 100) : gEv (gT X) 75 0 [.ref t, .null, .null] [] n k w Q ↔ Q (some (.int (gpr kr (fun c => ggt ts (gbs kr ts N (nI c) (We c)) N) K))) n k w := by
  have h0 := hT.1
  have loop : ∀ (D j : Nat) (a : Int32), j + D = K → (gEv (gT X) 75 4 [.ref t, .int a, .int (nI j)] [] n k w Q ↔ Q (some (.int (gfor (fun c a => a + gof kr 30 (nI c * 5 + 4) * ggt ts (gbs kr ts N (nI c) (We c)) N) j D a))) n k w) := by
    intro D
    induction D with
    | zero =>
      intro j a hj
      have hc : nI K ≤ nI j := nI_le (by omega) (by omega)
      rw [eX3_price_4]
      simp only [eX3_price_0, eX3_price_1, eX3_price_1b, eX3_price_1c, eX3_price_1d, eX3_price_2, eX3_price_3, eX3_price_3b, eX3_price_3c, eX3_price_3d, eX3_price_5, eX3_price_6, eX3_price_9, eX3_price_12, eX3_price_13, eX3_price_14, eX3_price_15, eX3_price_16, eX3_price_19, eX3_price_20, eX3_price_21, eX3_price_24, eX3_price_25, eX3_price_26, eX3_price_26b, eX3_price_26c, eX3_price_26d, eX3_price_27, eX3_price_27b, eX3_price_27c, eX3_price_27d, eX3_price_30, eX3_price_33, eX3_price_34, Option.toList_some, Option.toList_none, List.cons_append, List.nil_append, gcat_nil, gcat_cons, cat_int, cat_ref, cat_null, cat_ret, cat_long, grc_ref, narZ0, narZ1, true_and, and_true, decide_true, Nat.reduceAdd, Nat.reduceLeDiff, if_true, if_false, eq_self, gfld_in, gobj_in, garr_in, garq_in, glen_in, gisO_in, ex_some, List.getElem?_cons_succ, List.getElem?_cons_zero, List.length_cons, List.length_nil, List.set_cons_succ, List.set_cons_zero, Nat.reduceLT, va_up_eq, va_up_nl, h0, hc]
      rfl
    | succ D ih =>
      intro j a hj
      have hc : ¬ nI K ≤ nI j := nI_ge (by omega) (by omega)
      have hw := hW j (by omega)
      rw [eX3_price_4]
      simp only [eX3_price_0, eX3_price_1, eX3_price_1b, eX3_price_1c, eX3_price_1d, eX3_price_2, eX3_price_3, eX3_price_3b, eX3_price_3c, eX3_price_3d, eX3_price_5, eX3_price_6, eX3_price_9, eX3_price_12, eX3_price_13, eX3_price_14, eX3_price_15, eX3_price_16, eX3_price_19, eX3_price_20, eX3_price_21, eX3_price_24, eX3_price_25, eX3_price_26, eX3_price_26b, eX3_price_26c, eX3_price_26d, eX3_price_27, eX3_price_27b, eX3_price_27c, eX3_price_27d, eX3_price_30, eX3_price_33, eX3_price_34, Option.toList_some, Option.toList_none, List.cons_append, List.nil_append, gcat_nil, gcat_cons, cat_int, cat_ref, cat_null, cat_ret, cat_long, grc_ref, narZ0, narZ1, true_and, and_true, decide_true, Nat.reduceAdd, Nat.reduceLeDiff, if_true, if_false, eq_self, gfld_in, gobj_in, garr_in, garq_in, glen_in, gisO_in, ex_some, List.getElem?_cons_succ, List.getElem?_cons_zero, List.length_cons, List.length_nil, List.set_cons_succ, List.set_cons_zero, Nat.reduceLT, va_up_eq, va_up_nl, h0, hc, c_ofKind hT, c_greatestToll hN hT hw.1 hw.2, nI_1, ih (j + 1) _ (by omega)]
      rfl
  simp only [eX3_price_0, eX3_price_1, eX3_price_1b, eX3_price_1c, eX3_price_1d, eX3_price_2, eX3_price_3, eX3_price_3b, eX3_price_3c, eX3_price_3d, eX3_price_5, eX3_price_6, eX3_price_9, eX3_price_12, eX3_price_13, eX3_price_14, eX3_price_15, eX3_price_16, eX3_price_19, eX3_price_20, eX3_price_21, eX3_price_24, eX3_price_25, eX3_price_26, eX3_price_26b, eX3_price_26c, eX3_price_26d, eX3_price_27, eX3_price_27b, eX3_price_27c, eX3_price_27d, eX3_price_30, eX3_price_33, eX3_price_34, Option.toList_some, Option.toList_none, List.cons_append, List.nil_append, gcat_nil, gcat_cons, cat_int, cat_ref, cat_null, cat_ret, cat_long, grc_ref, narZ0, narZ1, true_and, and_true, decide_true, Nat.reduceAdd, Nat.reduceLeDiff, if_true, if_false, eq_self, gfld_in, gobj_in, garr_in, garq_in, glen_in, gisO_in, ex_some, List.getElem?_cons_succ, List.getElem?_cons_zero, List.length_cons, List.length_nil, List.set_cons_succ, List.set_cons_zero, Nat.reduceLT, va_up_eq, va_up_nl]
  exact loop K 0 0 (by omega)
theorem c_bears (hN : N ≤ 6) (hK : K ≤ 6) (hT : isTr w t kr ts co (nI K) (nI N) rm jm) (hW : ∀ c, c < K → gof kr 30 (nI c * 5 + 3) = nI (We c) ∧ We c < 100) {a : Int32} {wt : Nat} (hwt : gof kr 30 (a * 5 + 1) = nI wt) (hw9 : wt < 1000) : gEv (gT X) 71 0 [.ref t, .int a, .null, .null, .null, .null] [] n k w Q ↔ Q (some (.int (if gab (fun c => gbs kr ts N (nI c) (We c)) a 0 K 0 = -9 then -9 else gbr (fun x => gbc kr ts N a (nI x) (-1)) (gab (fun c => gbs kr ts N (nI c) (We c)) a 0 K 0) 0 wt (-9)))) n k w := by
  have h0 := hT.1
  have loop : ∀ (tk : Int32) (D j : Nat) (b : Int32), j + D = wt → (gEv (gT X) 71 29 [.ref t, .int a, .int tk, .int (nI wt), .int b, .int (nI j)] [] n k w Q ↔ Q (some (.int (gbr (fun x => gbc kr ts N a (nI x) (-1)) tk j D b))) n k w) := by
    intro tk D
    induction D with
    | zero =>
      intro j b hj
      have hc : nI wt ≤ nI j := nI_le (by omega) (by omega)
      rw [eX3_bears_29]
      simp only [eX3_bears_0, eX3_bears_1, eX3_bears_2, eX3_bears_5, eX3_bears_5b, eX3_bears_5c, eX3_bears_5d, eX3_bears_6, eX3_bears_7, eX3_bears_9, eX3_bears_12, eX3_bears_14, eX3_bears_15, eX3_bears_16, eX3_bears_17, eX3_bears_18, eX3_bears_21, eX3_bears_21b, eX3_bears_21c, eX3_bears_21d, eX3_bears_22, eX3_bears_24, eX3_bears_24b, eX3_bears_24c, eX3_bears_24d, eX3_bears_26, eX3_bears_27, eX3_bears_27b, eX3_bears_27c, eX3_bears_27d, eX3_bears_31, eX3_bears_32, eX3_bears_35, eX3_bears_36, eX3_bears_37, eX3_bears_38, eX3_bears_40, eX3_bears_41, eX3_bears_44, eX3_bears_45, eX3_bears_46, eX3_bears_47, eX3_bears_50, eX3_bears_52, eX3_bears_52b, eX3_bears_52c, eX3_bears_52d, eX3_bears_54, eX3_bears_54b, eX3_bears_54c, eX3_bears_54d, eX3_bears_57, eX3_bears_60, eX3_bears_62, Option.toList_some, Option.toList_none, List.cons_append, List.nil_append, gcat_nil, gcat_cons, cat_int, cat_ref, cat_null, cat_ret, cat_long, grc_ref, narZ0, narZ1, true_and, and_true, decide_true, Nat.reduceAdd, Nat.reduceLeDiff, if_true, if_false, eq_self, gfld_in, gobj_in, garr_in, garq_in, glen_in, gisO_in, ex_some, List.getElem?_cons_succ, List.getElem?_cons_zero, List.length_cons, List.length_nil, List.set_cons_succ, List.set_cons_zero, Nat.reduceLT, va_up_eq, va_up_nl, hc]
      rfl
    | succ D ih =>
      intro j b hj
      have hc : ¬ nI wt ≤ nI j := nI_ge (by omega) (by omega)
      rw [eX3_bears_29]
      simp only [eX3_bears_0, eX3_bears_1, eX3_bears_2, eX3_bears_5, eX3_bears_5b, eX3_bears_5c, eX3_bears_5d, eX3_bears_6, eX3_bears_7, eX3_bears_9, eX3_bears_12, eX3_bears_14, eX3_bears_15, eX3_bears_16, eX3_bears_17, eX3_bears_18, eX3_bears_21, eX3_bears_21b, eX3_bears_21c, eX3_bears_21d, eX3_bears_22, eX3_bears_24, eX3_bears_24b, eX3_bears_24c, eX3_bears_24d, eX3_bears_26, eX3_bears_27, eX3_bears_27b, eX3_bears_27c, eX3_bears_27d, eX3_bears_31, eX3_bears_32, eX3_bears_35, eX3_bears_36, eX3_bears_37, eX3_bears_38, eX3_bears_40, eX3_bears_41, eX3_bears_44, eX3_bears_45, eX3_bears_46, eX3_bears_47, eX3_bears_50, eX3_bears_52, eX3_bears_52b, eX3_bears_52c, eX3_bears_52d, eX3_bears_54, eX3_bears_54b, eX3_bears_54c, eX3_bears_54d, eX3_bears_57, eX3_bears_60, eX3_bears_62, Option.toList_some, Option.toList_none, List.cons_append, List.nil_append, gcat_nil, gcat_cons, cat_int, cat_ref, cat_null, cat_ret, cat_long, grc_ref, narZ0, narZ1, true_and, and_true, decide_true, Nat.reduceAdd, Nat.reduceLeDiff, if_true, if_false, eq_self, gfld_in, gobj_in, garr_in, garq_in, glen_in, gisO_in, ex_some, List.getElem?_cons_succ, List.getElem?_cons_zero, List.length_cons, List.length_nil, List.set_cons_succ, List.set_cons_zero, Nat.reduceLT, va_up_eq, va_up_nl, h0, hc, c_binOfCoin hN hT, nI_1, ih (j + 1) _ (by omega)]
      rw [gbr]
      by_cases q : (tk >>> (nI (gbc kr ts N a (nI j) (-1)) &&& 31)) &&& 1 = 0
      · rw [if_neg (fun z => z q), if_pos q]
      · rw [if_pos q, if_neg q]
  simp only [eX3_bears_0, eX3_bears_1, eX3_bears_2, eX3_bears_5, eX3_bears_5b, eX3_bears_5c, eX3_bears_5d, eX3_bears_6, eX3_bears_7, eX3_bears_9, eX3_bears_12, eX3_bears_14, eX3_bears_15, eX3_bears_16, eX3_bears_17, eX3_bears_18, eX3_bears_21, eX3_bears_21b, eX3_bears_21c, eX3_bears_21d, eX3_bears_22, eX3_bears_24, eX3_bears_24b, eX3_bears_24c, eX3_bears_24d, eX3_bears_26, eX3_bears_27, eX3_bears_27b, eX3_bears_27c, eX3_bears_27d, eX3_bears_31, eX3_bears_32, eX3_bears_35, eX3_bears_36, eX3_bears_37, eX3_bears_38, eX3_bears_40, eX3_bears_41, eX3_bears_44, eX3_bears_45, eX3_bears_46, eX3_bears_47, eX3_bears_50, eX3_bears_52, eX3_bears_52b, eX3_bears_52c, eX3_bears_52d, eX3_bears_54, eX3_bears_54b, eX3_bears_54c, eX3_bears_54d, eX3_bears_57, eX3_bears_60, eX3_bears_62, Option.toList_some, Option.toList_none, List.cons_append, List.nil_append, gcat_nil, gcat_cons, cat_int, cat_ref, cat_null, cat_ret, cat_long, grc_ref, narZ0, narZ1, true_and, and_true, decide_true, Nat.reduceAdd, Nat.reduceLeDiff, if_true, if_false, eq_self, gfld_in, gobj_in, garr_in, garq_in, glen_in, gisO_in, ex_some, List.getElem?_cons_succ, List.getElem?_cons_zero, List.length_cons, List.length_nil, List.set_cons_succ, List.set_cons_zero, Nat.reduceLT, va_up_eq, va_up_nl, h0, c_binsOfAllBut hN hK hT hW, c_ofKind hT, hwt]
  by_cases q : gab (fun c => gbs kr ts N (nI c) (We c)) a 0 K 0 = -9
  · rw [if_neg (fun z => z q), if_pos q]
  · rw [if_pos q, if_neg q]
    exact loop _ wt 0 (-9) (by omega)
theorem c_stopsOf (hN : N ≤ 6) (hT : isTr w t kr ts co kc (nI N) rm jm) {a x : Int32} : gEv (gT X) 66 0 [.ref t, .int a, .int x, .null, .null, .null, .null, .null] [] n k w Q ↔ Q (some (.int (gst ts N (gof kr 30 (a * 5 + 0)) (gof kr 30 (a * 5 + 1) - x) (gof kr 30 (a * 5 + 2))))) n k w := by
  have h0 := hT.1
  have loop : ∀ (d v e : Int32) (D j : Nat) (b : Int32), j + D = N → (gEv (gT X) 66 31 [.ref t, .int a, .int x, .int d, .int v, .int e, .int b, .int (nI j)] [] n k w Q ↔ Q (some (.int (gfor (fun j a => if gfall (ts (3 * j)) (ts (3 * j + 1)) 0 d v e = true then a ||| (1 <<< (nI j &&& 31)) else a) j D b))) n k w) := by
    intro d v e D
    induction D with
    | zero =>
      intro j b hj
      have hc : nI N ≤ nI j := nI_le (by omega) (by omega)
      rw [eX3_stopsOf_31]
      simp only [eX3_stopsOf_0, eX3_stopsOf_1, eX3_stopsOf_2, eX3_stopsOf_3, eX3_stopsOf_6, eX3_stopsOf_6b, eX3_stopsOf_6c, eX3_stopsOf_6d, eX3_stopsOf_7, eX3_stopsOf_8, eX3_stopsOf_9, eX3_stopsOf_10, eX3_stopsOf_13, eX3_stopsOf_14, eX3_stopsOf_15, eX3_stopsOf_15b, eX3_stopsOf_15c, eX3_stopsOf_15d, eX3_stopsOf_17, eX3_stopsOf_18, eX3_stopsOf_19, eX3_stopsOf_20, eX3_stopsOf_23, eX3_stopsOf_23b, eX3_stopsOf_23c, eX3_stopsOf_23d, eX3_stopsOf_25, eX3_stopsOf_26, eX3_stopsOf_26b, eX3_stopsOf_26c, eX3_stopsOf_26d, eX3_stopsOf_28, eX3_stopsOf_29, eX3_stopsOf_29b, eX3_stopsOf_29c, eX3_stopsOf_29d, eX3_stopsOf_33, eX3_stopsOf_34, eX3_stopsOf_37, eX3_stopsOf_40, eX3_stopsOf_41, eX3_stopsOf_43, eX3_stopsOf_44, eX3_stopsOf_46, eX3_stopsOf_48, eX3_stopsOf_49, eX3_stopsOf_52, eX3_stopsOf_55, eX3_stopsOf_57, eX3_stopsOf_58, eX3_stopsOf_60, eX3_stopsOf_61, eX3_stopsOf_62, eX3_stopsOf_62b, eX3_stopsOf_62c, eX3_stopsOf_62d, eX3_stopsOf_64, eX3_stopsOf_64b, eX3_stopsOf_64c, eX3_stopsOf_64d, eX3_stopsOf_67, eX3_stopsOf_70, eX3_stopsOf_72, Option.toList_some, Option.toList_none, List.cons_append, List.nil_append, gcat_nil, gcat_cons, cat_int, cat_ref, cat_null, cat_ret, cat_long, grc_ref, narZ0, narZ1, true_and, and_true, decide_true, Nat.reduceAdd, Nat.reduceLeDiff, if_true, if_false, eq_self, gfld_in, gobj_in, garr_in, garq_in, glen_in, gisO_in, ex_some, List.getElem?_cons_succ, List.getElem?_cons_zero, List.length_cons, List.length_nil, List.set_cons_succ, List.set_cons_zero, Nat.reduceLT, va_up_eq, va_up_nl, h0, hc]
      rfl
    | succ D ih =>
      intro j b hj
      have hc : ¬ nI N ≤ nI j := nI_ge (by omega) (by omega)
      rw [eX3_stopsOf_31]
      simp only [eX3_stopsOf_0, eX3_stopsOf_1, eX3_stopsOf_2, eX3_stopsOf_3, eX3_stopsOf_6, eX3_stopsOf_6b, eX3_stopsOf_6c, eX3_stopsOf_6d, eX3_stopsOf_7, eX3_stopsOf_8, eX3_stopsOf_9, eX3_stopsOf_10, eX3_stopsOf_13, eX3_stopsOf_14, eX3_stopsOf_15, eX3_stopsOf_15b, eX3_stopsOf_15c, eX3_stopsOf_15d, eX3_stopsOf_17, eX3_stopsOf_18, eX3_stopsOf_19, eX3_stopsOf_20, eX3_stopsOf_23, eX3_stopsOf_23b, eX3_stopsOf_23c, eX3_stopsOf_23d, eX3_stopsOf_25, eX3_stopsOf_26, eX3_stopsOf_26b, eX3_stopsOf_26c, eX3_stopsOf_26d, eX3_stopsOf_28, eX3_stopsOf_29, eX3_stopsOf_29b, eX3_stopsOf_29c, eX3_stopsOf_29d, eX3_stopsOf_33, eX3_stopsOf_34, eX3_stopsOf_37, eX3_stopsOf_40, eX3_stopsOf_41, eX3_stopsOf_43, eX3_stopsOf_44, eX3_stopsOf_46, eX3_stopsOf_48, eX3_stopsOf_49, eX3_stopsOf_52, eX3_stopsOf_55, eX3_stopsOf_57, eX3_stopsOf_58, eX3_stopsOf_60, eX3_stopsOf_61, eX3_stopsOf_62, eX3_stopsOf_62b, eX3_stopsOf_62c, eX3_stopsOf_62d, eX3_stopsOf_64, eX3_stopsOf_64b, eX3_stopsOf_64c, eX3_stopsOf_64d, eX3_stopsOf_67, eX3_stopsOf_70, eX3_stopsOf_72, Option.toList_some, Option.toList_none, List.cons_append, List.nil_append, gcat_nil, gcat_cons, cat_int, cat_ref, cat_null, cat_ret, cat_long, grc_ref, narZ0, narZ1, true_and, and_true, decide_true, Nat.reduceAdd, Nat.reduceLeDiff, if_true, if_false, eq_self, gfld_in, gobj_in, garr_in, garq_in, glen_in, gisO_in, ex_some, List.getElem?_cons_succ, List.getElem?_cons_zero, List.length_cons, List.length_nil, List.set_cons_succ, List.set_cons_zero, Nat.reduceLT, va_up_eq, va_up_nl, h0, hc, c_letsFall hT (show j < 6 by omega), gb_0, nI_1, ih (j + 1) _ (by omega)]
      rw [gfor]
      by_cases q : gfall (ts (3 * j)) (ts (3 * j + 1)) 0 d v e = true
      · rw [if_neg (fun z => z q), if_pos q]
      · rw [if_pos q, if_neg q]
  simp only [eX3_stopsOf_0, eX3_stopsOf_1, eX3_stopsOf_2, eX3_stopsOf_3, eX3_stopsOf_6, eX3_stopsOf_6b, eX3_stopsOf_6c, eX3_stopsOf_6d, eX3_stopsOf_7, eX3_stopsOf_8, eX3_stopsOf_9, eX3_stopsOf_10, eX3_stopsOf_13, eX3_stopsOf_14, eX3_stopsOf_15, eX3_stopsOf_15b, eX3_stopsOf_15c, eX3_stopsOf_15d, eX3_stopsOf_17, eX3_stopsOf_18, eX3_stopsOf_19, eX3_stopsOf_20, eX3_stopsOf_23, eX3_stopsOf_23b, eX3_stopsOf_23c, eX3_stopsOf_23d, eX3_stopsOf_25, eX3_stopsOf_26, eX3_stopsOf_26b, eX3_stopsOf_26c, eX3_stopsOf_26d, eX3_stopsOf_28, eX3_stopsOf_29, eX3_stopsOf_29b, eX3_stopsOf_29c, eX3_stopsOf_29d, eX3_stopsOf_33, eX3_stopsOf_34, eX3_stopsOf_37, eX3_stopsOf_40, eX3_stopsOf_41, eX3_stopsOf_43, eX3_stopsOf_44, eX3_stopsOf_46, eX3_stopsOf_48, eX3_stopsOf_49, eX3_stopsOf_52, eX3_stopsOf_55, eX3_stopsOf_57, eX3_stopsOf_58, eX3_stopsOf_60, eX3_stopsOf_61, eX3_stopsOf_62, eX3_stopsOf_62b, eX3_stopsOf_62c, eX3_stopsOf_62d, eX3_stopsOf_64, eX3_stopsOf_64b, eX3_stopsOf_64c, eX3_stopsOf_64d, eX3_stopsOf_67, eX3_stopsOf_70, eX3_stopsOf_72, Option.toList_some, Option.toList_none, List.cons_append, List.nil_append, gcat_nil, gcat_cons, cat_int, cat_ref, cat_null, cat_ret, cat_long, grc_ref, narZ0, narZ1, true_and, and_true, decide_true, Nat.reduceAdd, Nat.reduceLeDiff, if_true, if_false, eq_self, gfld_in, gobj_in, garr_in, garq_in, glen_in, gisO_in, ex_some, List.getElem?_cons_succ, List.getElem?_cons_zero, List.length_cons, List.length_nil, List.set_cons_succ, List.set_cons_zero, Nat.reduceLT, va_up_eq, va_up_nl, h0, c_ofKind hT]
  exact loop _ _ _ N 0 0 (by omega)
end TA
