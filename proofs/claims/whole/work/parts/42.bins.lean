/-! TRACK: where coins fall -/
theorem nI3 (j : Nat) : nI j * 3 = nI (3 * j) := by rw [show (3 : Int32) = nI 3 from rfl, pk_mul, Nat.mul_comm]
theorem nI5 (j : Nat) : nI j * 5 = nI (5 * j) := by rw [show (5 : Int32) = nI 5 from rfl, pk_mul, Nat.mul_comm]
theorem nIp3 (j : Nat) : nI j + 3 = nI (j + 3) := by rw [show (3 : Int32) = nI 3 from rfl, nI_add]
theorem nIp2 (j : Nat) : nI j + 2 = nI (j + 2) := by rw [show (2 : Int32) = nI 2 from rfl, nI_add]
theorem nIp4 (j : Nat) : nI j + 4 = nI (j + 4) := by rw [show (4 : Int32) = nI 4 from rfl, nI_add]
theorem nIp0 (j : Nat) : nI j + 0 = nI j := by rw [show (0 : Int32) = nI 0 from nI_0.symm, nI_add]; rfl
theorem glook_f {x : Int32} : glook 47 49 [(0, 25), (1, 37)] x = if x = 0 then 72 else if x = 1 then 84 else 96 := by
  unfold glook
  by_cases h0 : x = 0
  · subst h0
    rfl
  · rw [if_neg h0, lv_osw (a := 0) (k := 0) h0 rfl]
    by_cases h1 : x = 1
    · subst h1
      rfl
    · rw [if_neg h1, lv_osw (a := 1) (k := 1) h1 rfl]
      rfl
section TB
variable {X : gX} {n k : Nat} {w : gH} {Q : Option Value → Nat → Nat → gH → Prop} {t : Nat} {kr ts co : Nat → Int32} {kc tc rm jm : Int32}
theorem c_letsFall (hT : isTr w t kr ts co kc tc rm jm) {j : Nat} (hj : j < 6) {sh d v e : Int32} : gEv (gT X) 62 0 [.ref t, .int (nI j), .int d, .int v, .int e, .int sh, .null, .null] [] n k w Q ↔ Q (some (.int (gb (gfall (ts (3 * j)) (ts (3 * j + 1)) sh d v e = true)))) n k w := by
  obtain ⟨h0, h1, h2, h3⟩ := hT
  have q1 : ¬ nI (3 * j) < 0 := nI_pos (by omega)
  have q2 : nI (3 * j + 3) ≤ Int32.ofNat 18 := nI_le (b := 18) (by omega) (by omega)
  have q3 : vp_in (nI (3 * j)) 18 := vp_in_nI (by omega) (by omega)
  have q4 : vp_in (nI (3 * j + 1)) 18 := vp_in_nI (by omega) (by omega)
  simp only [eX3_letsFall_0, eX3_letsFall_1, eX3_letsFall_2, eX3_letsFall_3, eX3_letsFall_3b, eX3_letsFall_3c, eX3_letsFall_3d, eX3_letsFall_5, eX3_letsFall_7, eX3_letsFall_10, eX3_letsFall_12, eX3_letsFall_13, eX3_letsFall_14, eX3_letsFall_15, eX3_letsFall_18, eX3_letsFall_19, eX3_letsFall_22, eX3_letsFall_23, eX3_letsFall_24, eX3_letsFall_25, eX3_letsFall_28, eX3_letsFall_30, eX3_letsFall_31, eX3_letsFall_32, eX3_letsFall_33, eX3_letsFall_35, eX3_letsFall_36, eX3_letsFall_36b, eX3_letsFall_36c, eX3_letsFall_36d, eX3_letsFall_38, eX3_letsFall_39, eX3_letsFall_42, eX3_letsFall_44, eX3_letsFall_45, eX3_letsFall_46, eX3_letsFall_47, Option.toList_some, Option.toList_none, List.cons_append, List.nil_append, gcat_nil, gcat_cons, cat_int, cat_ref, cat_null, cat_ret, cat_long, grc_ref, narZ0, narZ1, true_and, and_true, decide_true, Nat.reduceAdd, Nat.reduceLeDiff, if_true, if_false, eq_self, gfld_in, gobj_in, garr_in, garq_in, glen_in, gisO_in, ex_some, List.getElem?_cons_succ, List.getElem?_cons_zero, List.length_cons, List.length_nil, List.set_cons_succ, List.set_cons_zero, Nat.reduceLT, va_up_eq, va_up_nl, h0, h2, nI3, nI_1, nIp3, nIp0, q1, q2, q3, q4, nI_clamp (show 3 * j < 2 ^ 31 by omega), nI_clamp (show 3 * j + 1 < 2 ^ 31 by omega), glook_f]
  unfold gfall
  by_cases c0 : ts (3 * j) = 0
  · rw [if_pos c0, if_pos c0]
    simp only [eX3_letsFall_0, eX3_letsFall_1, eX3_letsFall_2, eX3_letsFall_3, eX3_letsFall_3b, eX3_letsFall_3c, eX3_letsFall_3d, eX3_letsFall_5, eX3_letsFall_7, eX3_letsFall_10, eX3_letsFall_12, eX3_letsFall_13, eX3_letsFall_14, eX3_letsFall_15, eX3_letsFall_18, eX3_letsFall_19, eX3_letsFall_22, eX3_letsFall_23, eX3_letsFall_24, eX3_letsFall_25, eX3_letsFall_28, eX3_letsFall_30, eX3_letsFall_31, eX3_letsFall_32, eX3_letsFall_33, eX3_letsFall_35, eX3_letsFall_36, eX3_letsFall_36b, eX3_letsFall_36c, eX3_letsFall_36d, eX3_letsFall_38, eX3_letsFall_39, eX3_letsFall_42, eX3_letsFall_44, eX3_letsFall_45, eX3_letsFall_46, eX3_letsFall_47, eX3_letsFall_72, eX3_letsFall_73, eX3_letsFall_75, eX3_letsFall_78, eX3_letsFall_79, eX3_letsFall_82, eX3_letsFall_83, eX3_letsFall_84, eX3_letsFall_85, eX3_letsFall_87, eX3_letsFall_90, eX3_letsFall_91, eX3_letsFall_94, eX3_letsFall_95, eX3_letsFall_96, eX3_letsFall_98, eX3_letsFall_100, eX3_letsFall_103, eX3_letsFall_104, eX3_letsFall_107, eX3_letsFall_108, Option.toList_some, Option.toList_none, List.cons_append, List.nil_append, gcat_nil, gcat_cons, cat_int, cat_ref, cat_null, cat_ret, cat_long, grc_ref, narZ0, narZ1, true_and, and_true, decide_true, Nat.reduceAdd, Nat.reduceLeDiff, if_true, if_false, eq_self, gfld_in, gobj_in, garr_in, garq_in, glen_in, gisO_in, ex_some, List.getElem?_cons_succ, List.getElem?_cons_zero, List.length_cons, List.length_nil, List.set_cons_succ, List.set_cons_zero, Nat.reduceLT, va_up_eq, va_up_nl, decide_eq_true_eq]
    by_cases c1 : d ≤ ts (3 * j + 1) + sh
    · rw [if_neg (Int32.not_lt.mpr c1), gb_t c1]
    · rw [if_pos (Int32.not_le.mp c1), gb_f c1]
  · rw [if_neg c0, if_neg c0]
    by_cases c1 : ts (3 * j) = 1
    · rw [if_pos c1, if_pos c1]
      simp only [eX3_letsFall_0, eX3_letsFall_1, eX3_letsFall_2, eX3_letsFall_3, eX3_letsFall_3b, eX3_letsFall_3c, eX3_letsFall_3d, eX3_letsFall_5, eX3_letsFall_7, eX3_letsFall_10, eX3_letsFall_12, eX3_letsFall_13, eX3_letsFall_14, eX3_letsFall_15, eX3_letsFall_18, eX3_letsFall_19, eX3_letsFall_22, eX3_letsFall_23, eX3_letsFall_24, eX3_letsFall_25, eX3_letsFall_28, eX3_letsFall_30, eX3_letsFall_31, eX3_letsFall_32, eX3_letsFall_33, eX3_letsFall_35, eX3_letsFall_36, eX3_letsFall_36b, eX3_letsFall_36c, eX3_letsFall_36d, eX3_letsFall_38, eX3_letsFall_39, eX3_letsFall_42, eX3_letsFall_44, eX3_letsFall_45, eX3_letsFall_46, eX3_letsFall_47, eX3_letsFall_72, eX3_letsFall_73, eX3_letsFall_75, eX3_letsFall_78, eX3_letsFall_79, eX3_letsFall_82, eX3_letsFall_83, eX3_letsFall_84, eX3_letsFall_85, eX3_letsFall_87, eX3_letsFall_90, eX3_letsFall_91, eX3_letsFall_94, eX3_letsFall_95, eX3_letsFall_96, eX3_letsFall_98, eX3_letsFall_100, eX3_letsFall_103, eX3_letsFall_104, eX3_letsFall_107, eX3_letsFall_108, Option.toList_some, Option.toList_none, List.cons_append, List.nil_append, gcat_nil, gcat_cons, cat_int, cat_ref, cat_null, cat_ret, cat_long, grc_ref, narZ0, narZ1, true_and, and_true, decide_true, Nat.reduceAdd, Nat.reduceLeDiff, if_true, if_false, eq_self, gfld_in, gobj_in, garr_in, garq_in, glen_in, gisO_in, ex_some, List.getElem?_cons_succ, List.getElem?_cons_zero, List.length_cons, List.length_nil, List.set_cons_succ, List.set_cons_zero, Nat.reduceLT, va_up_eq, va_up_nl, decide_eq_true_eq]
      by_cases c2 : v ≤ ts (3 * j + 1) + sh
      · rw [if_neg (Int32.not_lt.mpr c2), gb_t c2]
      · rw [if_pos (Int32.not_le.mp c2), gb_f c2]
    · rw [if_neg c1, if_neg c1]
      simp only [eX3_letsFall_0, eX3_letsFall_1, eX3_letsFall_2, eX3_letsFall_3, eX3_letsFall_3b, eX3_letsFall_3c, eX3_letsFall_3d, eX3_letsFall_5, eX3_letsFall_7, eX3_letsFall_10, eX3_letsFall_12, eX3_letsFall_13, eX3_letsFall_14, eX3_letsFall_15, eX3_letsFall_18, eX3_letsFall_19, eX3_letsFall_22, eX3_letsFall_23, eX3_letsFall_24, eX3_letsFall_25, eX3_letsFall_28, eX3_letsFall_30, eX3_letsFall_31, eX3_letsFall_32, eX3_letsFall_33, eX3_letsFall_35, eX3_letsFall_36, eX3_letsFall_36b, eX3_letsFall_36c, eX3_letsFall_36d, eX3_letsFall_38, eX3_letsFall_39, eX3_letsFall_42, eX3_letsFall_44, eX3_letsFall_45, eX3_letsFall_46, eX3_letsFall_47, eX3_letsFall_72, eX3_letsFall_73, eX3_letsFall_75, eX3_letsFall_78, eX3_letsFall_79, eX3_letsFall_82, eX3_letsFall_83, eX3_letsFall_84, eX3_letsFall_85, eX3_letsFall_87, eX3_letsFall_90, eX3_letsFall_91, eX3_letsFall_94, eX3_letsFall_95, eX3_letsFall_96, eX3_letsFall_98, eX3_letsFall_100, eX3_letsFall_103, eX3_letsFall_104, eX3_letsFall_107, eX3_letsFall_108, Option.toList_some, Option.toList_none, List.cons_append, List.nil_append, gcat_nil, gcat_cons, cat_int, cat_ref, cat_null, cat_ret, cat_long, grc_ref, narZ0, narZ1, true_and, and_true, decide_true, Nat.reduceAdd, Nat.reduceLeDiff, if_true, if_false, eq_self, gfld_in, gobj_in, garr_in, garq_in, glen_in, gisO_in, ex_some, List.getElem?_cons_succ, List.getElem?_cons_zero, List.length_cons, List.length_nil, List.set_cons_succ, List.set_cons_zero, Nat.reduceLT, va_up_eq, va_up_nl, decide_eq_true_eq]
      by_cases c2 : e = ts (3 * j + 1) + sh
      · rw [if_neg (fun z => z c2), gb_t c2]
      · rw [if_pos c2, gb_f c2]
theorem c_binOf {N : Nat} (hN : N ≤ 6) (hT : isTr w t kr ts co kc (nI N) rm jm) {d v e s : Int32} : gEv (gT X) 63 0 [.ref t, .int d, .int v, .int e, .int s, .null] [] n k w Q ↔ Q (some (.int (nI (gbn ts s N d v e)))) n k w := by
  have h0 := hT.1
  have loop : ∀ (D j : Nat), j + D = N → (gEv (gT X) 63 3 [.ref t, .int d, .int v, .int e, .int s, .int (nI j)] [] n k w Q ↔ Q (some (.int (nI (gfst (fun i => gfall (ts (3 * i)) (ts (3 * i + 1)) (gsh s i) d v e = true) j D)))) n k w) := by
    intro D
    induction D with
    | zero =>
      intro j hj
      have hc : nI N ≤ nI j := nI_le (by omega) (by omega)
      rw [eX3_binOf_3]
      simp only [eX3_binOf_0, eX3_binOf_1, eX3_binOf_1b, eX3_binOf_1c, eX3_binOf_1d, eX3_binOf_5, eX3_binOf_6, eX3_binOf_9, eX3_binOf_12, eX3_binOf_13, eX3_binOf_15, eX3_binOf_16, eX3_binOf_17, eX3_binOf_18, eX3_binOf_20, eX3_binOf_22, eX3_binOf_25, eX3_binOf_28, eX3_binOf_31, eX3_binOf_33, eX3_binOf_34, eX3_binOf_34b, eX3_binOf_34c, eX3_binOf_34d, eX3_binOf_37, eX3_binOf_40, eX3_binOf_41, eX3_binOf_44, Option.toList_some, Option.toList_none, List.cons_append, List.nil_append, gcat_nil, gcat_cons, cat_int, cat_ref, cat_null, cat_ret, cat_long, grc_ref, narZ0, narZ1, true_and, and_true, decide_true, Nat.reduceAdd, Nat.reduceLeDiff, if_true, if_false, eq_self, gfld_in, gobj_in, garr_in, garq_in, glen_in, gisO_in, ex_some, List.getElem?_cons_succ, List.getElem?_cons_zero, List.length_cons, List.length_nil, List.set_cons_succ, List.set_cons_zero, Nat.reduceLT, va_up_eq, va_up_nl, h0, hc]
      rw [show N = j by omega]
      rfl
    | succ D ih =>
      intro j hj
      have hc : ¬ nI N ≤ nI j := nI_ge (by omega) (by omega)
      rw [eX3_binOf_3]
      simp only [eX3_binOf_0, eX3_binOf_1, eX3_binOf_1b, eX3_binOf_1c, eX3_binOf_1d, eX3_binOf_5, eX3_binOf_6, eX3_binOf_9, eX3_binOf_12, eX3_binOf_13, eX3_binOf_15, eX3_binOf_16, eX3_binOf_17, eX3_binOf_18, eX3_binOf_20, eX3_binOf_22, eX3_binOf_25, eX3_binOf_28, eX3_binOf_31, eX3_binOf_33, eX3_binOf_34, eX3_binOf_34b, eX3_binOf_34c, eX3_binOf_34d, eX3_binOf_37, eX3_binOf_40, eX3_binOf_41, eX3_binOf_44, Option.toList_some, Option.toList_none, List.cons_append, List.nil_append, gcat_nil, gcat_cons, cat_int, cat_ref, cat_null, cat_ret, cat_long, grc_ref, narZ0, narZ1, true_and, and_true, decide_true, Nat.reduceAdd, Nat.reduceLeDiff, if_true, if_false, eq_self, gfld_in, gobj_in, garr_in, garq_in, glen_in, gisO_in, ex_some, List.getElem?_cons_succ, List.getElem?_cons_zero, List.length_cons, List.length_nil, List.set_cons_succ, List.set_cons_zero, Nat.reduceLT, va_up_eq, va_up_nl, h0, hc, c_shiftOf, c_letsFall hT (show j < 6 by omega), gb_0, nI_1, ih (j + 1) (by omega)]
      rw [gfst]
      by_cases q : gfall (ts (3 * j)) (ts (3 * j + 1)) (gsh s j) d v e = true
      · rw [if_neg (fun z => z q), if_pos q]
      · rw [if_pos q, if_neg q]
  simp only [eX3_binOf_0, eX3_binOf_1, eX3_binOf_1b, eX3_binOf_1c, eX3_binOf_1d, eX3_binOf_5, eX3_binOf_6, eX3_binOf_9, eX3_binOf_12, eX3_binOf_13, eX3_binOf_15, eX3_binOf_16, eX3_binOf_17, eX3_binOf_18, eX3_binOf_20, eX3_binOf_22, eX3_binOf_25, eX3_binOf_28, eX3_binOf_31, eX3_binOf_33, eX3_binOf_34, eX3_binOf_34b, eX3_binOf_34c, eX3_binOf_34d, eX3_binOf_37, eX3_binOf_40, eX3_binOf_41, eX3_binOf_44, Option.toList_some, Option.toList_none, List.cons_append, List.nil_append, gcat_nil, gcat_cons, cat_int, cat_ref, cat_null, cat_ret, cat_long, grc_ref, narZ0, narZ1, true_and, and_true, decide_true, Nat.reduceAdd, Nat.reduceLeDiff, if_true, if_false, eq_self, gfld_in, gobj_in, garr_in, garq_in, glen_in, gisO_in, ex_some, List.getElem?_cons_succ, List.getElem?_cons_zero, List.length_cons, List.length_nil, List.set_cons_succ, List.set_cons_zero, Nat.reduceLT, va_up_eq, va_up_nl]
  exact loop N 0 (by omega)
/-- the bin of a coin of kind a, worn by x, by a suspect -/
def gbc (kr ts : Nat → Int32) (N : Nat) (a x s : Int32) : Nat := gbn ts s N (gof kr 30 (a * 5 + 0)) (gof kr 30 (a * 5 + 1) - x) (gof kr 30 (a * 5 + 2))
theorem c_binOfCoin {N : Nat} (hN : N ≤ 6) (hT : isTr w t kr ts co kc (nI N) rm jm) {a x s : Int32} : gEv (gT X) 65 0 [.ref t, .int a, .int x, .int s] [] n k w Q ↔ Q (some (.int (nI (gbc kr ts N a x s)))) n k w := by
  have h0 := hT.1
  simp only [eX3_binOfCoin_0, eX3_binOfCoin_1, eX3_binOfCoin_2, eX3_binOfCoin_3, eX3_binOfCoin_4, eX3_binOfCoin_7, eX3_binOfCoin_8, eX3_binOfCoin_9, eX3_binOfCoin_10, eX3_binOfCoin_13, eX3_binOfCoin_14, eX3_binOfCoin_15, eX3_binOfCoin_16, eX3_binOfCoin_17, eX3_binOfCoin_18, eX3_binOfCoin_21, eX3_binOfCoin_22, eX3_binOfCoin_25, Option.toList_some, Option.toList_none, List.cons_append, List.nil_append, gcat_nil, gcat_cons, cat_int, cat_ref, cat_null, cat_ret, cat_long, grc_ref, narZ0, narZ1, true_and, and_true, decide_true, Nat.reduceAdd, Nat.reduceLeDiff, if_true, if_false, eq_self, gfld_in, gobj_in, garr_in, garq_in, glen_in, gisO_in, ex_some, List.getElem?_cons_succ, List.getElem?_cons_zero, List.length_cons, List.length_nil, List.set_cons_succ, List.set_cons_zero, Nat.reduceLT, va_up_eq, va_up_nl, h0, c_ofKind hT, c_binOf hN hT]
  rfl
/-- the bins of the coins of kind a, worn by 0 .. wr -/
def gbs (kr ts : Nat → Int32) (N : Nat) (a : Int32) (wr : Nat) : Int32 := gfor (fun x b => b ||| (1 <<< (nI (gbc kr ts N a (nI x) (-1)) &&& 31))) 0 (wr + 1) 0
theorem c_binsOf {N : Nat} (hN : N ≤ 6) (hT : isTr w t kr ts co kc (nI N) rm jm) {a : Int32} {wr : Nat} (hw : gof kr 30 (a * 5 + 3) = nI wr) (hw9 : wr < 100) : gEv (gT X) 67 0 [.ref t, .int a, .null, .null, .null] [] n k w Q ↔ Q (some (.int (gbs kr ts N a wr))) n k w := by
  have h0 := hT.1
  have loop : ∀ (D j : Nat) (b : Int32), j + D = wr + 1 → (gEv (gT X) 67 12 [.ref t, .int a, .int (nI wr), .int b, .int (nI j)] [] n k w Q ↔ Q (some (.int (gfor (fun x b => b ||| (1 <<< (nI (gbc kr ts N a (nI x) (-1)) &&& 31))) j D b))) n k w) := by
    intro D
    induction D with
    | zero =>
      intro j b hj
      have hc : nI wr < nI j := nI_lt (by omega) (by omega)
      rw [eX3_binsOf_12]
      simp only [eX3_binsOf_0, eX3_binsOf_1, eX3_binsOf_2, eX3_binsOf_3, eX3_binsOf_6, eX3_binsOf_6b, eX3_binsOf_6c, eX3_binsOf_6d, eX3_binsOf_7, eX3_binsOf_8, eX3_binsOf_8b, eX3_binsOf_8c, eX3_binsOf_8d, eX3_binsOf_9, eX3_binsOf_10, eX3_binsOf_10b, eX3_binsOf_10c, eX3_binsOf_10d, eX3_binsOf_14, eX3_binsOf_15, eX3_binsOf_18, eX3_binsOf_19, eX3_binsOf_20, eX3_binsOf_21, eX3_binsOf_22, eX3_binsOf_24, eX3_binsOf_25, eX3_binsOf_28, eX3_binsOf_29, eX3_binsOf_30, eX3_binsOf_30b, eX3_binsOf_30c, eX3_binsOf_30d, eX3_binsOf_31, eX3_binsOf_31b, eX3_binsOf_31c, eX3_binsOf_31d, eX3_binsOf_34, eX3_binsOf_37, eX3_binsOf_38, Option.toList_some, Option.toList_none, List.cons_append, List.nil_append, gcat_nil, gcat_cons, cat_int, cat_ref, cat_null, cat_ret, cat_long, grc_ref, narZ0, narZ1, true_and, and_true, decide_true, Nat.reduceAdd, Nat.reduceLeDiff, if_true, if_false, eq_self, gfld_in, gobj_in, garr_in, garq_in, glen_in, gisO_in, ex_some, List.getElem?_cons_succ, List.getElem?_cons_zero, List.length_cons, List.length_nil, List.set_cons_succ, List.set_cons_zero, Nat.reduceLT, va_up_eq, va_up_nl, hc]
      rfl
    | succ D ih =>
      intro j b hj
      have hc : ¬ nI wr < nI j := nI_nlt (by omega) (by omega)
      rw [eX3_binsOf_12]
      simp only [eX3_binsOf_0, eX3_binsOf_1, eX3_binsOf_2, eX3_binsOf_3, eX3_binsOf_6, eX3_binsOf_6b, eX3_binsOf_6c, eX3_binsOf_6d, eX3_binsOf_7, eX3_binsOf_8, eX3_binsOf_8b, eX3_binsOf_8c, eX3_binsOf_8d, eX3_binsOf_9, eX3_binsOf_10, eX3_binsOf_10b, eX3_binsOf_10c, eX3_binsOf_10d, eX3_binsOf_14, eX3_binsOf_15, eX3_binsOf_18, eX3_binsOf_19, eX3_binsOf_20, eX3_binsOf_21, eX3_binsOf_22, eX3_binsOf_24, eX3_binsOf_25, eX3_binsOf_28, eX3_binsOf_29, eX3_binsOf_30, eX3_binsOf_30b, eX3_binsOf_30c, eX3_binsOf_30d, eX3_binsOf_31, eX3_binsOf_31b, eX3_binsOf_31c, eX3_binsOf_31d, eX3_binsOf_34, eX3_binsOf_37, eX3_binsOf_38, Option.toList_some, Option.toList_none, List.cons_append, List.nil_append, gcat_nil, gcat_cons, cat_int, cat_ref, cat_null, cat_ret, cat_long, grc_ref, narZ0, narZ1, true_and, and_true, decide_true, Nat.reduceAdd, Nat.reduceLeDiff, if_true, if_false, eq_self, gfld_in, gobj_in, garr_in, garq_in, glen_in, gisO_in, ex_some, List.getElem?_cons_succ, List.getElem?_cons_zero, List.length_cons, List.length_nil, List.set_cons_succ, List.set_cons_zero, Nat.reduceLT, va_up_eq, va_up_nl, h0, hc, c_binOfCoin hN hT, nI_1, ih (j + 1) _ (by omega)]
      rfl
  simp only [eX3_binsOf_0, eX3_binsOf_1, eX3_binsOf_2, eX3_binsOf_3, eX3_binsOf_6, eX3_binsOf_6b, eX3_binsOf_6c, eX3_binsOf_6d, eX3_binsOf_7, eX3_binsOf_8, eX3_binsOf_8b, eX3_binsOf_8c, eX3_binsOf_8d, eX3_binsOf_9, eX3_binsOf_10, eX3_binsOf_10b, eX3_binsOf_10c, eX3_binsOf_10d, eX3_binsOf_14, eX3_binsOf_15, eX3_binsOf_18, eX3_binsOf_19, eX3_binsOf_20, eX3_binsOf_21, eX3_binsOf_22, eX3_binsOf_24, eX3_binsOf_25, eX3_binsOf_28, eX3_binsOf_29, eX3_binsOf_30, eX3_binsOf_30b, eX3_binsOf_30c, eX3_binsOf_30d, eX3_binsOf_31, eX3_binsOf_31b, eX3_binsOf_31c, eX3_binsOf_31d, eX3_binsOf_34, eX3_binsOf_37, eX3_binsOf_38, Option.toList_some, Option.toList_none, List.cons_append, List.nil_append, gcat_nil, gcat_cons, cat_int, cat_ref, cat_null, cat_ret, cat_long, grc_ref, narZ0, narZ1, true_and, and_true, decide_true, Nat.reduceAdd, Nat.reduceLeDiff, if_true, if_false, eq_self, gfld_in, gobj_in, garr_in, garq_in, glen_in, gisO_in, ex_some, List.getElem?_cons_succ, List.getElem?_cons_zero, List.length_cons, List.length_nil, List.set_cons_succ, List.set_cons_zero, Nat.reduceLT, va_up_eq, va_up_nl, h0, c_ofKind hT, hw]
  exact loop (wr + 1) 0 0 (by omega)
end TB
