/-! THE MODEL: where coins fall, kinds, tolls, price, wear -/
def gsf (fz fb : Int32) (t : Nat) : Int32 := if nI t = fz then fb else 0
def mbn (nw : Nat → Int32) (fz fb : Int32) (ap : Nat → Nat) (L : Nat) (d v e : Int32) : Nat := gfst (fun p => gfall (nw (3 * ap p + 32)) (nw (3 * ap p + 33)) (gsf fz fb (ap p)) d v e = true) 0 L
def mbc (nw : Nat → Int32) (fz fb : Int32) (ap : Nat → Nat) (L : Nat) (c : Nat) (x : Int32) : Nat := mbn nw fz fb ap L (nw (5 * c + 1)) (nw (5 * c + 2) - x) (nw (5 * c + 3))
def mbs (bc : Nat → Nat) (wr : Nat) : Int32 := gfor (fun x b => b ||| (1 <<< (nI (bc x) &&& 31))) 0 (wr + 1) 0
def mtl (nw : Nat → Int32) (ap : Nat → Nat) (b : Int32) : Nat → Nat → Int32 → Int32
  | _, 0, a => a
  | j, d + 1, a => if b < nI j then a else mtl nw ap b (j + 1) d (a + nw (3 * ap j + 34))
def mto (tl : Nat → Int32) (wr : Nat) : Int32 := gfor (fun x m => if tl x ≤ m then m else tl x) 0 (wr + 1) 0
def maa (bs : Nat → Int32) : Nat → Nat → Int32 → Int32 → Int32
  | _, 0, _, are => are
  | j, d + 1, had, are => maa bs (j + 1) d (had ||| bs j) (if are = 0 then 0 else if had &&& bs j = 0 then 1 else 0)
def mpr (nw : Nat → Int32) (to : Nat → Int32) (K : Nat) : Int32 := gfor (fun c a => a + nw (5 * c + 5) * to c) 0 K 0
def mks (bs : Nat → Int32) (b : Int32) (K : Nat) : Int32 := gfor (fun c a => a ||| (if (bs c >>> (b &&& 31)) &&& 1 = 1 then 1 <<< (nI c &&& 31) else 0)) 0 K 0
def mon (s : Int32) : Int32 := gfor (fun j a => a + ((s >>> (nI j &&& 31)) &&& 1)) 0 7 0
def mdb (bs : Nat → Int32) (K : Nat) : Int32 := gfor (fun c a => a ||| (if mon (bs c) ≤ 1 then (0 : Int32) else 1 <<< (nI c &&& 31))) 0 K 0
theorem m5 (c : Nat) : 1 + 5 * nI c = nI (5 * c + 1) := by rw [show (5 : Int32) = nI 5 from rfl, show (1 : Int32) = nI 1 from rfl, pk_mul, nI_add, Nat.add_comm]
theorem m32 (c : Nat) : 32 + 3 * nI c = nI (3 * c + 32) := by rw [show (3 : Int32) = nI 3 from rfl, show (32 : Int32) = nI 32 from rfl, pk_mul, nI_add, Nat.add_comm]
section MQ
variable {X : gX} {n k : Nat} {w : gH} {Q : Option Value → Nat → Nat → gH → Prop} {o : Nat} {nw rd ps im ik tx fa al be fo io : Nat → Int32} {de le pz tk ta va se it ln fz fb fm : Int32} {K N L : Nat} {ap We : Nat → Nat}
theorem c6_in {a b c : Int32} : gEv (gT X) 116 0 [.int a, .int b, .int c] [] n k w Q ↔ Q (some (.int (gb (b ≤ a ∧ a ≤ c)))) n k w := by
  simp only [eX6_in_0, eX6_in_1, eX6_in_2, eX6_in_5, eX6_in_6, eX6_in_7, eX6_in_10, eX6_in_11, eX6_in_14, eX6_in_15, Option.toList_some, Option.toList_none, List.cons_append, List.nil_append, gcat_nil, gcat_cons, cat_int, cat_ref, cat_null, cat_ret, cat_long, grc_ref, narZ0, narZ1, true_and, and_true, decide_true, Nat.reduceAdd, Nat.reduceLeDiff, if_true, if_false, eq_self, gfld_in, gobj_in, garr_in, garq_in, glen_in, gisO_in, ex_some, List.getElem?_cons_succ, List.getElem?_cons_zero, List.length_cons, List.length_nil, List.set_cons_succ, List.set_cons_zero, Nat.reduceLT, va_up_eq, va_up_nl]
  by_cases h1 : a < b
  · rw [if_pos h1, gb_f (fun z => absurd z.1 (Int32.not_le.mpr h1))]
  · rw [if_neg h1]
    by_cases h2 : c < a
    · rw [if_pos h2, gb_f (fun z => absurd z.2 (Int32.not_le.mpr h2))]
    · rw [if_neg h2, gb_t ⟨Int32.not_lt.mp h1, Int32.not_lt.mp h2⟩]
theorem c6_has {a b : Int32} : gEv (gT X) 117 0 [.int a, .int b] [] n k w Q ↔ Q (some (.int (gb ((a >>> (b &&& 31)) &&& 1 = 1)))) n k w := by
  simp only [eX6_has_0, eX6_has_1, eX6_has_2, eX6_has_3, eX6_has_4, eX6_has_5, eX6_has_6, eX6_has_9, eX6_has_10, eX6_has_13, eX6_has_14, Option.toList_some, Option.toList_none, List.cons_append, List.nil_append, gcat_nil, gcat_cons, cat_int, cat_ref, cat_null, cat_ret, cat_long, grc_ref, narZ0, narZ1, true_and, and_true, decide_true, Nat.reduceAdd, Nat.reduceLeDiff, if_true, if_false, eq_self, gfld_in, gobj_in, garr_in, garq_in, glen_in, gisO_in, ex_some, List.getElem?_cons_succ, List.getElem?_cons_zero, List.length_cons, List.length_nil, List.set_cons_succ, List.set_cons_zero, Nat.reduceLT, va_up_eq, va_up_nl]
  by_cases h1 : (a >>> (b &&& 31)) &&& 1 = 1
  · rw [if_neg (fun z => z h1), gb_t h1]
  · rw [if_pos h1, gb_f h1]
theorem c6_ones {s : Int32} : gEv (gT X) 118 0 [.int s, .null, .null] [] n k w Q ↔ Q (some (.int (mon s))) n k w := by
  have loop : ∀ (D j : Nat) (a : Int32), j + D = 7 → (gEv (gT X) 118 4 [.int s, .int a, .int (nI j)] [] n k w Q ↔ Q (some (.int (gfor (fun j a => a + ((s >>> (nI j &&& 31)) &&& 1)) j D a))) n k w) := by
    intro D
    induction D with
    | zero =>
      intro j a hj
      have hc : 7 ≤ nI j := nI_le (a := 7) (by omega) (by omega)
      rw [eX6_ones_4]
      simp only [eX6_ones_0, eX6_ones_1, eX6_ones_1b, eX6_ones_1c, eX6_ones_1d, eX6_ones_2, eX6_ones_3, eX6_ones_3b, eX6_ones_3c, eX6_ones_3d, eX6_ones_5, eX6_ones_7, eX6_ones_10, eX6_ones_11, eX6_ones_12, eX6_ones_13, eX6_ones_14, eX6_ones_15, eX6_ones_16, eX6_ones_17, eX6_ones_17b, eX6_ones_17c, eX6_ones_17d, eX6_ones_18, eX6_ones_18b, eX6_ones_18c, eX6_ones_18d, eX6_ones_21, eX6_ones_24, eX6_ones_25, Option.toList_some, Option.toList_none, List.cons_append, List.nil_append, gcat_nil, gcat_cons, cat_int, cat_ref, cat_null, cat_ret, cat_long, grc_ref, narZ0, narZ1, true_and, and_true, decide_true, Nat.reduceAdd, Nat.reduceLeDiff, if_true, if_false, eq_self, gfld_in, gobj_in, garr_in, garq_in, glen_in, gisO_in, ex_some, List.getElem?_cons_succ, List.getElem?_cons_zero, List.length_cons, List.length_nil, List.set_cons_succ, List.set_cons_zero, Nat.reduceLT, va_up_eq, va_up_nl, hc]
      rfl
    | succ D ih =>
      intro j a hj
      have hc : ¬ 7 ≤ nI j := nI_ge (b := 7) (by omega) (by omega)
      rw [eX6_ones_4]
      simp only [eX6_ones_0, eX6_ones_1, eX6_ones_1b, eX6_ones_1c, eX6_ones_1d, eX6_ones_2, eX6_ones_3, eX6_ones_3b, eX6_ones_3c, eX6_ones_3d, eX6_ones_5, eX6_ones_7, eX6_ones_10, eX6_ones_11, eX6_ones_12, eX6_ones_13, eX6_ones_14, eX6_ones_15, eX6_ones_16, eX6_ones_17, eX6_ones_17b, eX6_ones_17c, eX6_ones_17d, eX6_ones_18, eX6_ones_18b, eX6_ones_18c, eX6_ones_18d, eX6_ones_21, eX6_ones_24, eX6_ones_25, Option.toList_some, Option.toList_none, List.cons_append, List.nil_append, gcat_nil, gcat_cons, cat_int, cat_ref, cat_null, cat_ret, cat_long, grc_ref, narZ0, narZ1, true_and, and_true, decide_true, Nat.reduceAdd, Nat.reduceLeDiff, if_true, if_false, eq_self, gfld_in, gobj_in, garr_in, garq_in, glen_in, gisO_in, ex_some, List.getElem?_cons_succ, List.getElem?_cons_zero, List.length_cons, List.length_nil, List.set_cons_succ, List.set_cons_zero, Nat.reduceLT, va_up_eq, va_up_nl, hc, nI_1, ih (j + 1) _ (by omega)]
      rfl
  simp only [eX6_ones_0, eX6_ones_1, eX6_ones_1b, eX6_ones_1c, eX6_ones_1d, eX6_ones_2, eX6_ones_3, eX6_ones_3b, eX6_ones_3c, eX6_ones_3d, eX6_ones_5, eX6_ones_7, eX6_ones_10, eX6_ones_11, eX6_ones_12, eX6_ones_13, eX6_ones_14, eX6_ones_15, eX6_ones_16, eX6_ones_17, eX6_ones_17b, eX6_ones_17c, eX6_ones_17d, eX6_ones_18, eX6_ones_18b, eX6_ones_18c, eX6_ones_18d, eX6_ones_21, eX6_ones_24, eX6_ones_25, Option.toList_some, Option.toList_none, List.cons_append, List.nil_append, gcat_nil, gcat_cons, cat_int, cat_ref, cat_null, cat_ret, cat_long, grc_ref, narZ0, narZ1, true_and, and_true, decide_true, Nat.reduceAdd, Nat.reduceLeDiff, if_true, if_false, eq_self, gfld_in, gobj_in, garr_in, garq_in, glen_in, gisO_in, ex_some, List.getElem?_cons_succ, List.getElem?_cons_zero, List.length_cons, List.length_nil, List.set_cons_succ, List.set_cons_zero, Nat.reduceLT, va_up_eq, va_up_nl]
  exact loop 7 0 0 rfl
theorem c6_ofKind {c : Nat} (hc : c < 6) {f : Nat} (hf : f < 5) : gEv (gT X) 138 0 [.ref o, .int (nI c), .int (nI f)] [] n k (mW w o nw rd ps de im ik tx le pz tk ta va fa se it al ln fz fb be fo fm io) Q ↔ Q (some (.int (nw (5 * c + 1 + f)))) n k (mW w o nw rd ps de im ik tx le pz tk ta va fa se it al ln fz fb be fo fm io) := by
  have hv : vp_in (nI (5 * c + 1 + f)) 59 := vp_in_nI (by omega) (by omega)
  simp only [eX6_ofKind_0, eX6_ofKind_1, eX6_ofKind_4, eX6_ofKind_5, eX6_ofKind_6, eX6_ofKind_7, eX6_ofKind_8, eX6_ofKind_9, eX6_ofKind_10, eX6_ofKind_11, eX6_ofKind_12, Option.toList_some, Option.toList_none, List.cons_append, List.nil_append, gcat_nil, gcat_cons, cat_int, cat_ref, cat_null, cat_ret, cat_long, grc_ref, narZ0, narZ1, true_and, and_true, decide_true, Nat.reduceAdd, Nat.reduceLeDiff, if_true, if_false, eq_self, gfld_in, gobj_in, garr_in, garq_in, glen_in, gisO_in, ex_some, List.getElem?_cons_succ, List.getElem?_cons_zero, List.length_cons, List.length_nil, List.set_cons_succ, List.set_cons_zero, Nat.reduceLT, va_up_eq, va_up_nl, mW_0, mW_1, m5, nI_add, hv, nI_clamp (show 5 * c + 1 + f < 2 ^ 31 by omega)]
theorem c6_ofTest {c : Nat} (hc : c < 6) {f : Nat} (hf : f < 3) : gEv (gT X) 139 0 [.ref o, .int (nI c), .int (nI f)] [] n k (mW w o nw rd ps de im ik tx le pz tk ta va fa se it al ln fz fb be fo fm io) Q ↔ Q (some (.int (nw (3 * c + 32 + f)))) n k (mW w o nw rd ps de im ik tx le pz tk ta va fa se it al ln fz fb be fo fm io) := by
  have hv : vp_in (nI (3 * c + 32 + f)) 59 := vp_in_nI (by omega) (by omega)
  simp only [eX6_ofTest_0, eX6_ofTest_1, eX6_ofTest_4, eX6_ofTest_6, eX6_ofTest_7, eX6_ofTest_8, eX6_ofTest_9, eX6_ofTest_10, eX6_ofTest_11, eX6_ofTest_12, eX6_ofTest_13, Option.toList_some, Option.toList_none, List.cons_append, List.nil_append, gcat_nil, gcat_cons, cat_int, cat_ref, cat_null, cat_ret, cat_long, grc_ref, narZ0, narZ1, true_and, and_true, decide_true, Nat.reduceAdd, Nat.reduceLeDiff, if_true, if_false, eq_self, gfld_in, gobj_in, garr_in, garq_in, glen_in, gisO_in, ex_some, List.getElem?_cons_succ, List.getElem?_cons_zero, List.length_cons, List.length_nil, List.set_cons_succ, List.set_cons_zero, Nat.reduceLT, va_up_eq, va_up_nl, mW_0, mW_1, m32, nI_add, hv, nI_clamp (show 3 * c + 32 + f < 2 ^ 31 by omega)]
theorem c6_falls {t : Nat} (ht : t < 6) {d v e : Int32} : gEv (gT X) 141 0 [.ref o, .int (nI t), .int d, .int v, .int e, .null, .null] [] n k (mW w o nw rd ps de im ik tx le pz tk ta va fa se it al ln fz fb be fo fm io) Q ↔ Q (some (.int (gb (gfall (nw (3 * t + 32)) (nw (3 * t + 33)) (gsf fz fb t) d v e = true)))) n k (mW w o nw rd ps de im ik tx le pz tk ta va fa se it al ln fz fb be fo fm io) := by
  have f1 : ∀ {Q}, gEv (gT X) 139 0 [.ref o, .int (nI t), .int 1] [] n k (mW w o nw rd ps de im ik tx le pz tk ta va fa se it al ln fz fb be fo fm io) Q ↔ Q (some (.int (nw (3 * t + 33)))) n k (mW w o nw rd ps de im ik tx le pz tk ta va fa se it al ln fz fb be fo fm io) := c6_ofTest ht (f := 1) (by decide)
  have f0 : ∀ {Q}, gEv (gT X) 139 0 [.ref o, .int (nI t), .int 0] [] n k (mW w o nw rd ps de im ik tx le pz tk ta va fa se it al ln fz fb be fo fm io) Q ↔ Q (some (.int (nw (3 * t + 32)))) n k (mW w o nw rd ps de im ik tx le pz tk ta va fa se it al ln fz fb be fo fm io) := c6_ofTest ht (f := 0) (by decide)
  have tail : ∀ (sh : Int32), gEv (gT X) 141 22 [.ref o, .int (nI t), .int d, .int v, .int e, .null, .null] [.int sh, .int (nw (3 * t + 33))] n k (mW w o nw rd ps de im ik tx le pz tk ta va fa se it al ln fz fb be fo fm io) Q ↔ Q (some (.int (gb (gfall (nw (3 * t + 32)) (nw (3 * t + 33)) sh d v e = true)))) n k (mW w o nw rd ps de im ik tx le pz tk ta va fa se it al ln fz fb be fo fm io) := by
    intro sh
    simp only [eX6_falls_22, eX6_falls_23, eX6_falls_23b, eX6_falls_23c, eX6_falls_23d, eX6_falls_25, eX6_falls_26, eX6_falls_27, eX6_falls_28, eX6_falls_31, eX6_falls_31b, eX6_falls_31c, eX6_falls_31d, eX6_falls_33, eX6_falls_35, eX6_falls_38, eX6_falls_39, eX6_falls_41, eX6_falls_44, eX6_falls_45, eX6_falls_48, eX6_falls_49, eX6_falls_52, eX6_falls_54, eX6_falls_55, eX6_falls_58, eX6_falls_59, eX6_falls_61, eX6_falls_64, eX6_falls_65, eX6_falls_68, eX6_falls_69, eX6_falls_72, eX6_falls_74, eX6_falls_76, eX6_falls_79, eX6_falls_80, eX6_falls_83, eX6_falls_84, Option.toList_some, Option.toList_none, List.cons_append, List.nil_append, gcat_nil, gcat_cons, cat_int, cat_ref, cat_null, cat_ret, cat_long, grc_ref, narZ0, narZ1, true_and, and_true, decide_true, Nat.reduceAdd, Nat.reduceLeDiff, if_true, if_false, eq_self, gfld_in, gobj_in, garr_in, garq_in, glen_in, gisO_in, ex_some, List.getElem?_cons_succ, List.getElem?_cons_zero, List.length_cons, List.length_nil, List.set_cons_succ, List.set_cons_zero, Nat.reduceLT, va_up_eq, va_up_nl, mW_0, f0]
    unfold gfall
    by_cases c0 : nw (3 * t + 32) = 0
    · rw [if_neg (fun z => z c0), if_pos c0]
      simp only [decide_eq_true_eq]
      by_cases c1 : d ≤ nw (3 * t + 33) + sh
      · rw [if_neg (Int32.not_lt.mpr c1), gb_t c1]
      · rw [if_pos (Int32.not_le.mp c1), gb_f c1]
    · rw [if_pos c0, if_neg c0]
      by_cases c1 : nw (3 * t + 32) = 1
      · rw [if_neg (fun z => z c1), if_pos c1]
        simp only [decide_eq_true_eq]
        by_cases c2 : v ≤ nw (3 * t + 33) + sh
        · rw [if_neg (Int32.not_lt.mpr c2), gb_t c2]
        · rw [if_pos (Int32.not_le.mp c2), gb_f c2]
      · rw [if_pos c1, if_neg c1]
        simp only [decide_eq_true_eq]
        by_cases c2 : e = nw (3 * t + 33) + sh
        · rw [if_neg (fun z => z c2), gb_t c2]
        · rw [if_pos c2, gb_f c2]
  simp only [eX6_falls_0, eX6_falls_1, eX6_falls_2, eX6_falls_3, eX6_falls_6, eX6_falls_7, eX6_falls_8, eX6_falls_11, eX6_falls_14, eX6_falls_15, eX6_falls_18, eX6_falls_21, Option.toList_some, Option.toList_none, List.cons_append, List.nil_append, gcat_nil, gcat_cons, cat_int, cat_ref, cat_null, cat_ret, cat_long, grc_ref, narZ0, narZ1, true_and, and_true, decide_true, Nat.reduceAdd, Nat.reduceLeDiff, if_true, if_false, eq_self, gfld_in, gobj_in, garr_in, garq_in, glen_in, gisO_in, ex_some, List.getElem?_cons_succ, List.getElem?_cons_zero, List.length_cons, List.length_nil, List.set_cons_succ, List.set_cons_zero, Nat.reduceLT, va_up_eq, va_up_nl, mW_0, f1]
  unfold gsf
  by_cases q : nI t = fz
  · rw [if_neg (fun z => z q), if_pos q]
    exact tail fb
  · rw [if_pos q, if_neg q]
    exact tail 0
theorem c6_binOf (hL : L ≤ 6) (hal : ∀ p, p < L → al p = nI (ap p) ∧ ap p < 6) {d v e : Int32} : gEv (gT X) 142 0 [.ref o, .int d, .int v, .int e, .null] [] n k (mW w o nw rd ps de im ik tx le pz tk ta va fa se it al (nI L) fz fb be fo fm io) Q ↔ Q (some (.int (nI (mbn nw fz fb ap L d v e)))) n k (mW w o nw rd ps de im ik tx le pz tk ta va fa se it al (nI L) fz fb be fo fm io) := by
  have loop : ∀ (D j : Nat), j + D = L → (gEv (gT X) 142 3 [.ref o, .int d, .int v, .int e, .int (nI j)] [] n k (mW w o nw rd ps de im ik tx le pz tk ta va fa se it al (nI L) fz fb be fo fm io) Q ↔ Q (some (.int (nI (gfst (fun p => gfall (nw (3 * ap p + 32)) (nw (3 * ap p + 33)) (gsf fz fb (ap p)) d v e = true) j D)))) n k (mW w o nw rd ps de im ik tx le pz tk ta va fa se it al (nI L) fz fb be fo fm io)) := by
    intro D
    induction D with
    | zero =>
      intro j hj
      have hc : nI L ≤ nI j := nI_le (by omega) (by omega)
      rw [eX6_binOf_3]
      simp only [eX6_binOf_0, eX6_binOf_1, eX6_binOf_1b, eX6_binOf_1c, eX6_binOf_1d, eX6_binOf_5, eX6_binOf_6, eX6_binOf_9, eX6_binOf_12, eX6_binOf_13, eX6_binOf_14, eX6_binOf_17, eX6_binOf_19, eX6_binOf_20, eX6_binOf_21, eX6_binOf_22, eX6_binOf_23, eX6_binOf_26, eX6_binOf_29, eX6_binOf_29b, eX6_binOf_29c, eX6_binOf_29d, eX6_binOf_32, eX6_binOf_35, eX6_binOf_37, Option.toList_some, Option.toList_none, List.cons_append, List.nil_append, gcat_nil, gcat_cons, cat_int, cat_ref, cat_null, cat_ret, cat_long, grc_ref, narZ0, narZ1, true_and, and_true, decide_true, Nat.reduceAdd, Nat.reduceLeDiff, if_true, if_false, eq_self, gfld_in, gobj_in, garr_in, garq_in, glen_in, gisO_in, ex_some, List.getElem?_cons_succ, List.getElem?_cons_zero, List.length_cons, List.length_nil, List.set_cons_succ, List.set_cons_zero, Nat.reduceLT, va_up_eq, va_up_nl, mW_0, hc]
      rfl
    | succ D ih =>
      intro j hj
      have hc : ¬ nI L ≤ nI j := nI_ge (by omega) (by omega)
      have hv : vp_in (nI j) 6 := vp_in_nI (by omega) (by omega)
      obtain ⟨ha, hb⟩ := hal j (by omega)
      rw [eX6_binOf_3]
      simp only [eX6_binOf_0, eX6_binOf_1, eX6_binOf_1b, eX6_binOf_1c, eX6_binOf_1d, eX6_binOf_5, eX6_binOf_6, eX6_binOf_9, eX6_binOf_12, eX6_binOf_13, eX6_binOf_14, eX6_binOf_17, eX6_binOf_19, eX6_binOf_20, eX6_binOf_21, eX6_binOf_22, eX6_binOf_23, eX6_binOf_26, eX6_binOf_29, eX6_binOf_29b, eX6_binOf_29c, eX6_binOf_29d, eX6_binOf_32, eX6_binOf_35, eX6_binOf_37, Option.toList_some, Option.toList_none, List.cons_append, List.nil_append, gcat_nil, gcat_cons, cat_int, cat_ref, cat_null, cat_ret, cat_long, grc_ref, narZ0, narZ1, true_and, and_true, decide_true, Nat.reduceAdd, Nat.reduceLeDiff, if_true, if_false, eq_self, gfld_in, gobj_in, garr_in, garq_in, glen_in, gisO_in, ex_some, List.getElem?_cons_succ, List.getElem?_cons_zero, List.length_cons, List.length_nil, List.set_cons_succ, List.set_cons_zero, Nat.reduceLT, va_up_eq, va_up_nl, mW_0, mW_8, hc, hv, nI_clamp (show j < 2 ^ 31 by omega), ha, c6_falls hb, gb_0, nI_1, ih (j + 1) (by omega)]
      rw [gfst]
      by_cases q : gfall (nw (3 * ap j + 32)) (nw (3 * ap j + 33)) (gsf fz fb (ap j)) d v e = true
      · rw [if_pos (fun z => z q), if_pos q]
      · rw [if_neg (fun z => z q), if_neg q]
  simp only [eX6_binOf_0, eX6_binOf_1, eX6_binOf_1b, eX6_binOf_1c, eX6_binOf_1d, eX6_binOf_5, eX6_binOf_6, eX6_binOf_9, eX6_binOf_12, eX6_binOf_13, eX6_binOf_14, eX6_binOf_17, eX6_binOf_19, eX6_binOf_20, eX6_binOf_21, eX6_binOf_22, eX6_binOf_23, eX6_binOf_26, eX6_binOf_29, eX6_binOf_29b, eX6_binOf_29c, eX6_binOf_29d, eX6_binOf_32, eX6_binOf_35, eX6_binOf_37, Option.toList_some, Option.toList_none, List.cons_append, List.nil_append, gcat_nil, gcat_cons, cat_int, cat_ref, cat_null, cat_ret, cat_long, grc_ref, narZ0, narZ1, true_and, and_true, decide_true, Nat.reduceAdd, Nat.reduceLeDiff, if_true, if_false, eq_self, gfld_in, gobj_in, garr_in, garq_in, glen_in, gisO_in, ex_some, List.getElem?_cons_succ, List.getElem?_cons_zero, List.length_cons, List.length_nil, List.set_cons_succ, List.set_cons_zero, Nat.reduceLT, va_up_eq, va_up_nl]
  exact loop L 0 (by omega)
theorem c6_binBy (hL : L ≤ 6) (hal : ∀ p, p < L → al p = nI (ap p) ∧ ap p < 6) {c : Nat} (hc : c < 6) {x : Int32} : gEv (gT X) 143 0 [.ref o, .int (nI c), .int x] [] n k (mW w o nw rd ps de im ik tx le pz tk ta va fa se it al (nI L) fz fb be fo fm io) Q ↔ Q (some (.int (nI (mbc nw fz fb ap L c x)))) n k (mW w o nw rd ps de im ik tx le pz tk ta va fa se it al (nI L) fz fb be fo fm io) := by
  have f0 : ∀ {Q}, gEv (gT X) 138 0 [.ref o, .int (nI c), .int 0] [] n k (mW w o nw rd ps de im ik tx le pz tk ta va fa se it al (nI L) fz fb be fo fm io) Q ↔ Q (some (.int (nw (5 * c + 1)))) n k (mW w o nw rd ps de im ik tx le pz tk ta va fa se it al (nI L) fz fb be fo fm io) := c6_ofKind hc (f := 0) (by decide)
  have f1 : ∀ {Q}, gEv (gT X) 138 0 [.ref o, .int (nI c), .int 1] [] n k (mW w o nw rd ps de im ik tx le pz tk ta va fa se it al (nI L) fz fb be fo fm io) Q ↔ Q (some (.int (nw (5 * c + 2)))) n k (mW w o nw rd ps de im ik tx le pz tk ta va fa se it al (nI L) fz fb be fo fm io) := c6_ofKind hc (f := 1) (by decide)
  have f2 : ∀ {Q}, gEv (gT X) 138 0 [.ref o, .int (nI c), .int 2] [] n k (mW w o nw rd ps de im ik tx le pz tk ta va fa se it al (nI L) fz fb be fo fm io) Q ↔ Q (some (.int (nw (5 * c + 3)))) n k (mW w o nw rd ps de im ik tx le pz tk ta va fa se it al (nI L) fz fb be fo fm io) := c6_ofKind hc (f := 2) (by decide)
  simp only [eX6_binBy_0, eX6_binBy_1, eX6_binBy_2, eX6_binBy_3, eX6_binBy_4, eX6_binBy_7, eX6_binBy_8, eX6_binBy_9, eX6_binBy_10, eX6_binBy_13, eX6_binBy_14, eX6_binBy_15, eX6_binBy_16, eX6_binBy_17, eX6_binBy_18, eX6_binBy_21, eX6_binBy_24, Option.toList_some, Option.toList_none, List.cons_append, List.nil_append, gcat_nil, gcat_cons, cat_int, cat_ref, cat_null, cat_ret, cat_long, grc_ref, narZ0, narZ1, true_and, and_true, decide_true, Nat.reduceAdd, Nat.reduceLeDiff, if_true, if_false, eq_self, gfld_in, gobj_in, garr_in, garq_in, glen_in, gisO_in, ex_some, List.getElem?_cons_succ, List.getElem?_cons_zero, List.length_cons, List.length_nil, List.set_cons_succ, List.set_cons_zero, Nat.reduceLT, va_up_eq, va_up_nl, mW_0, f0, f1, f2, c6_binOf hL hal]
  rfl
theorem c6_binsOf (hL : L ≤ 6) (hal : ∀ p, p < L → al p = nI (ap p) ∧ ap p < 6) {c : Nat} (hc : c < 6) {wr : Nat} (hw : wr < 1000) : gEv (gT X) 145 0 [.ref o, .int (nI c), .int (nI wr), .null, .null] [] n k (mW w o nw rd ps de im ik tx le pz tk ta va fa se it al (nI L) fz fb be fo fm io) Q ↔ Q (some (.int (mbs (fun x => mbc nw fz fb ap L c (nI x)) wr))) n k (mW w o nw rd ps de im ik tx le pz tk ta va fa se it al (nI L) fz fb be fo fm io) := by
  have loop : ∀ (D j : Nat) (b : Int32), j + D = wr + 1 → (gEv (gT X) 145 5 [.ref o, .int (nI c), .int (nI wr), .int b, .int (nI j)] [] n k (mW w o nw rd ps de im ik tx le pz tk ta va fa se it al (nI L) fz fb be fo fm io) Q ↔ Q (some (.int (gfor (fun x b => b ||| (1 <<< (nI (mbc nw fz fb ap L c (nI x)) &&& 31))) j D b))) n k (mW w o nw rd ps de im ik tx le pz tk ta va fa se it al (nI L) fz fb be fo fm io)) := by
    intro D
    induction D with
    | zero =>
      intro j b hj
      have hc1 : nI wr < nI j := nI_lt (by omega) (by omega)
      rw [eX6_binsOf_5]
      simp only [eX6_binsOf_0, eX6_binsOf_1, eX6_binsOf_1b, eX6_binsOf_1c, eX6_binsOf_1d, eX6_binsOf_2, eX6_binsOf_3, eX6_binsOf_3b, eX6_binsOf_3c, eX6_binsOf_3d, eX6_binsOf_7, eX6_binsOf_8, eX6_binsOf_11, eX6_binsOf_12, eX6_binsOf_13, eX6_binsOf_14, eX6_binsOf_15, eX6_binsOf_17, eX6_binsOf_20, eX6_binsOf_21, eX6_binsOf_22, eX6_binsOf_22b, eX6_binsOf_22c, eX6_binsOf_22d, eX6_binsOf_23, eX6_binsOf_23b, eX6_binsOf_23c, eX6_binsOf_23d, eX6_binsOf_26, eX6_binsOf_29, eX6_binsOf_30, Option.toList_some, Option.toList_none, List.cons_append, List.nil_append, gcat_nil, gcat_cons, cat_int, cat_ref, cat_null, cat_ret, cat_long, grc_ref, narZ0, narZ1, true_and, and_true, decide_true, Nat.reduceAdd, Nat.reduceLeDiff, if_true, if_false, eq_self, gfld_in, gobj_in, garr_in, garq_in, glen_in, gisO_in, ex_some, List.getElem?_cons_succ, List.getElem?_cons_zero, List.length_cons, List.length_nil, List.set_cons_succ, List.set_cons_zero, Nat.reduceLT, va_up_eq, va_up_nl, hc1]
      rfl
    | succ D ih =>
      intro j b hj
      have hc1 : ¬ nI wr < nI j := nI_nlt (by omega) (by omega)
      rw [eX6_binsOf_5]
      simp only [eX6_binsOf_0, eX6_binsOf_1, eX6_binsOf_1b, eX6_binsOf_1c, eX6_binsOf_1d, eX6_binsOf_2, eX6_binsOf_3, eX6_binsOf_3b, eX6_binsOf_3c, eX6_binsOf_3d, eX6_binsOf_7, eX6_binsOf_8, eX6_binsOf_11, eX6_binsOf_12, eX6_binsOf_13, eX6_binsOf_14, eX6_binsOf_15, eX6_binsOf_17, eX6_binsOf_20, eX6_binsOf_21, eX6_binsOf_22, eX6_binsOf_22b, eX6_binsOf_22c, eX6_binsOf_22d, eX6_binsOf_23, eX6_binsOf_23b, eX6_binsOf_23c, eX6_binsOf_23d, eX6_binsOf_26, eX6_binsOf_29, eX6_binsOf_30, Option.toList_some, Option.toList_none, List.cons_append, List.nil_append, gcat_nil, gcat_cons, cat_int, cat_ref, cat_null, cat_ret, cat_long, grc_ref, narZ0, narZ1, true_and, and_true, decide_true, Nat.reduceAdd, Nat.reduceLeDiff, if_true, if_false, eq_self, gfld_in, gobj_in, garr_in, garq_in, glen_in, gisO_in, ex_some, List.getElem?_cons_succ, List.getElem?_cons_zero, List.length_cons, List.length_nil, List.set_cons_succ, List.set_cons_zero, Nat.reduceLT, va_up_eq, va_up_nl, mW_0, hc1, c6_binBy hL hal hc, nI_1, ih (j + 1) _ (by omega)]
      rfl
  simp only [eX6_binsOf_0, eX6_binsOf_1, eX6_binsOf_1b, eX6_binsOf_1c, eX6_binsOf_1d, eX6_binsOf_2, eX6_binsOf_3, eX6_binsOf_3b, eX6_binsOf_3c, eX6_binsOf_3d, eX6_binsOf_7, eX6_binsOf_8, eX6_binsOf_11, eX6_binsOf_12, eX6_binsOf_13, eX6_binsOf_14, eX6_binsOf_15, eX6_binsOf_17, eX6_binsOf_20, eX6_binsOf_21, eX6_binsOf_22, eX6_binsOf_22b, eX6_binsOf_22c, eX6_binsOf_22d, eX6_binsOf_23, eX6_binsOf_23b, eX6_binsOf_23c, eX6_binsOf_23d, eX6_binsOf_26, eX6_binsOf_29, eX6_binsOf_30, Option.toList_some, Option.toList_none, List.cons_append, List.nil_append, gcat_nil, gcat_cons, cat_int, cat_ref, cat_null, cat_ret, cat_long, grc_ref, narZ0, narZ1, true_and, and_true, decide_true, Nat.reduceAdd, Nat.reduceLeDiff, if_true, if_false, eq_self, gfld_in, gobj_in, garr_in, garq_in, glen_in, gisO_in, ex_some, List.getElem?_cons_succ, List.getElem?_cons_zero, List.length_cons, List.length_nil, List.set_cons_succ, List.set_cons_zero, Nat.reduceLT, va_up_eq, va_up_nl]
  exact loop (wr + 1) 0 0 (by omega)
theorem c6_tollTo (hL : L ≤ 6) (hal : ∀ p, p < L → al p = nI (ap p) ∧ ap p < 6) {b : Int32} : gEv (gT X) 144 0 [.ref o, .int b, .null, .null] [] n k (mW w o nw rd ps de im ik tx le pz tk ta va fa se it al (nI L) fz fb be fo fm io) Q ↔ Q (some (.int (mtl nw ap b 0 L 0))) n k (mW w o nw rd ps de im ik tx le pz tk ta va fa se it al (nI L) fz fb be fo fm io) := by
  have loop : ∀ (D j : Nat) (a : Int32), j + D = L → (gEv (gT X) 144 4 [.ref o, .int b, .int a, .int (nI j)] [] n k (mW w o nw rd ps de im ik tx le pz tk ta va fa se it al (nI L) fz fb be fo fm io) Q ↔ Q (some (.int (mtl nw ap b j D a))) n k (mW w o nw rd ps de im ik tx le pz tk ta va fa se it al (nI L) fz fb be fo fm io)) := by
    intro D
    induction D with
    | zero =>
      intro j a hj
      have hc : nI L ≤ nI j := nI_le (by omega) (by omega)
      rw [eX6_tollTo_4]
      simp only [eX6_tollTo_0, eX6_tollTo_1, eX6_tollTo_1b, eX6_tollTo_1c, eX6_tollTo_1d, eX6_tollTo_2, eX6_tollTo_3, eX6_tollTo_3b, eX6_tollTo_3c, eX6_tollTo_3d, eX6_tollTo_5, eX6_tollTo_6, eX6_tollTo_9, eX6_tollTo_12, eX6_tollTo_13, eX6_tollTo_14, eX6_tollTo_17, eX6_tollTo_18, eX6_tollTo_19, eX6_tollTo_20, eX6_tollTo_23, eX6_tollTo_24, eX6_tollTo_25, eX6_tollTo_26, eX6_tollTo_29, eX6_tollTo_30, eX6_tollTo_30b, eX6_tollTo_30c, eX6_tollTo_30d, eX6_tollTo_31, eX6_tollTo_31b, eX6_tollTo_31c, eX6_tollTo_31d, eX6_tollTo_34, eX6_tollTo_37, eX6_tollTo_38, Option.toList_some, Option.toList_none, List.cons_append, List.nil_append, gcat_nil, gcat_cons, cat_int, cat_ref, cat_null, cat_ret, cat_long, grc_ref, narZ0, narZ1, true_and, and_true, decide_true, Nat.reduceAdd, Nat.reduceLeDiff, if_true, if_false, eq_self, gfld_in, gobj_in, garr_in, garq_in, glen_in, gisO_in, ex_some, List.getElem?_cons_succ, List.getElem?_cons_zero, List.length_cons, List.length_nil, List.set_cons_succ, List.set_cons_zero, Nat.reduceLT, va_up_eq, va_up_nl, mW_0, hc]
      rfl
    | succ D ih =>
      intro j a hj
      have hc : ¬ nI L ≤ nI j := nI_ge (by omega) (by omega)
      have hv : vp_in (nI j) 6 := vp_in_nI (by omega) (by omega)
      obtain ⟨ha, hb⟩ := hal j (by omega)
      have f2 : ∀ {Q}, gEv (gT X) 139 0 [.ref o, .int (nI (ap j)), .int 2] [] n k (mW w o nw rd ps de im ik tx le pz tk ta va fa se it al (nI L) fz fb be fo fm io) Q ↔ Q (some (.int (nw (3 * ap j + 34)))) n k (mW w o nw rd ps de im ik tx le pz tk ta va fa se it al (nI L) fz fb be fo fm io) := c6_ofTest hb (f := 2) (by decide)
      rw [eX6_tollTo_4]
      simp only [eX6_tollTo_0, eX6_tollTo_1, eX6_tollTo_1b, eX6_tollTo_1c, eX6_tollTo_1d, eX6_tollTo_2, eX6_tollTo_3, eX6_tollTo_3b, eX6_tollTo_3c, eX6_tollTo_3d, eX6_tollTo_5, eX6_tollTo_6, eX6_tollTo_9, eX6_tollTo_12, eX6_tollTo_13, eX6_tollTo_14, eX6_tollTo_17, eX6_tollTo_18, eX6_tollTo_19, eX6_tollTo_20, eX6_tollTo_23, eX6_tollTo_24, eX6_tollTo_25, eX6_tollTo_26, eX6_tollTo_29, eX6_tollTo_30, eX6_tollTo_30b, eX6_tollTo_30c, eX6_tollTo_30d, eX6_tollTo_31, eX6_tollTo_31b, eX6_tollTo_31c, eX6_tollTo_31d, eX6_tollTo_34, eX6_tollTo_37, eX6_tollTo_38, Option.toList_some, Option.toList_none, List.cons_append, List.nil_append, gcat_nil, gcat_cons, cat_int, cat_ref, cat_null, cat_ret, cat_long, grc_ref, narZ0, narZ1, true_and, and_true, decide_true, Nat.reduceAdd, Nat.reduceLeDiff, if_true, if_false, eq_self, gfld_in, gobj_in, garr_in, garq_in, glen_in, gisO_in, ex_some, List.getElem?_cons_succ, List.getElem?_cons_zero, List.length_cons, List.length_nil, List.set_cons_succ, List.set_cons_zero, Nat.reduceLT, va_up_eq, va_up_nl, mW_0, mW_8, hc, hv, nI_clamp (show j < 2 ^ 31 by omega), ha, f2, nI_1, ih (j + 1) _ (by omega)]
      rw [mtl]
      by_cases q : b < nI j
      · rw [if_pos q, if_pos q]
      · rw [if_neg q, if_neg q]
  simp only [eX6_tollTo_0, eX6_tollTo_1, eX6_tollTo_1b, eX6_tollTo_1c, eX6_tollTo_1d, eX6_tollTo_2, eX6_tollTo_3, eX6_tollTo_3b, eX6_tollTo_3c, eX6_tollTo_3d, eX6_tollTo_5, eX6_tollTo_6, eX6_tollTo_9, eX6_tollTo_12, eX6_tollTo_13, eX6_tollTo_14, eX6_tollTo_17, eX6_tollTo_18, eX6_tollTo_19, eX6_tollTo_20, eX6_tollTo_23, eX6_tollTo_24, eX6_tollTo_25, eX6_tollTo_26, eX6_tollTo_29, eX6_tollTo_30, eX6_tollTo_30b, eX6_tollTo_30c, eX6_tollTo_30d, eX6_tollTo_31, eX6_tollTo_31b, eX6_tollTo_31c, eX6_tollTo_31d, eX6_tollTo_34, eX6_tollTo_37, eX6_tollTo_38, Option.toList_some, Option.toList_none, List.cons_append, List.nil_append, gcat_nil, gcat_cons, cat_int, cat_ref, cat_null, cat_ret, cat_long, grc_ref, narZ0, narZ1, true_and, and_true, decide_true, Nat.reduceAdd, Nat.reduceLeDiff, if_true, if_false, eq_self, gfld_in, gobj_in, garr_in, garq_in, glen_in, gisO_in, ex_some, List.getElem?_cons_succ, List.getElem?_cons_zero, List.length_cons, List.length_nil, List.set_cons_succ, List.set_cons_zero, Nat.reduceLT, va_up_eq, va_up_nl]
  exact loop L 0 0 (by omega)
theorem c6_tollOf (hL : L ≤ 6) (hal : ∀ p, p < L → al p = nI (ap p) ∧ ap p < 6) {c : Nat} (hc : c < 6) {wr : Nat} (hw : nw (5 * c + 4) = nI wr) (hw9 : wr < 1000) : gEv (gT X) 146 0 [.ref o, .int (nI c), .null, .null, .null] [] n k (mW w o nw rd ps de im ik tx le pz tk ta va fa se it al (nI L) fz fb be fo fm io) Q ↔ Q (some (.int (mto (fun x => mtl nw ap (nI (mbc nw fz fb ap L c (nI x))) 0 L 0) wr))) n k (mW w o nw rd ps de im ik tx le pz tk ta va fa se it al (nI L) fz fb be fo fm io) := by
  have f3 : ∀ {Q}, gEv (gT X) 138 0 [.ref o, .int (nI c), .int 3] [] n k (mW w o nw rd ps de im ik tx le pz tk ta va fa se it al (nI L) fz fb be fo fm io) Q ↔ Q (some (.int (nw (5 * c + 4)))) n k (mW w o nw rd ps de im ik tx le pz tk ta va fa se it al (nI L) fz fb be fo fm io) := c6_ofKind hc (f := 3) (by decide)
  have loop : ∀ (D j : Nat) (m : Int32) (v4 : Value), j + D = wr + 1 → (gEv (gT X) 146 4 [.ref o, .int (nI c), .int m, .int (nI j), v4] [] n k (mW w o nw rd ps de im ik tx le pz tk ta va fa se it al (nI L) fz fb be fo fm io) Q ↔ Q (some (.int (gfor (fun x m => if mtl nw ap (nI (mbc nw fz fb ap L c (nI x))) 0 L 0 ≤ m then m else mtl nw ap (nI (mbc nw fz fb ap L c (nI x))) 0 L 0) j D m))) n k (mW w o nw rd ps de im ik tx le pz tk ta va fa se it al (nI L) fz fb be fo fm io)) := by
    intro D
    induction D with
    | zero =>
      intro j m v4 hj
      have hc1 : nI wr < nI j := nI_lt (by omega) (by omega)
      rw [eX6_tollOf_4]
      simp only [eX6_tollOf_0, eX6_tollOf_1, eX6_tollOf_1b, eX6_tollOf_1c, eX6_tollOf_1d, eX6_tollOf_2, eX6_tollOf_3, eX6_tollOf_3b, eX6_tollOf_3c, eX6_tollOf_3d, eX6_tollOf_5, eX6_tollOf_6, eX6_tollOf_7, eX6_tollOf_8, eX6_tollOf_11, eX6_tollOf_14, eX6_tollOf_15, eX6_tollOf_16, eX6_tollOf_17, eX6_tollOf_18, eX6_tollOf_21, eX6_tollOf_24, eX6_tollOf_24b, eX6_tollOf_24c, eX6_tollOf_24d, eX6_tollOf_26, eX6_tollOf_28, eX6_tollOf_29, eX6_tollOf_32, eX6_tollOf_34, eX6_tollOf_37, eX6_tollOf_38, eX6_tollOf_38b, eX6_tollOf_38c, eX6_tollOf_38d, eX6_tollOf_39, eX6_tollOf_39b, eX6_tollOf_39c, eX6_tollOf_39d, eX6_tollOf_42, eX6_tollOf_45, eX6_tollOf_46, Option.toList_some, Option.toList_none, List.cons_append, List.nil_append, gcat_nil, gcat_cons, cat_int, cat_ref, cat_null, cat_ret, cat_long, grc_ref, narZ0, narZ1, true_and, and_true, decide_true, Nat.reduceAdd, Nat.reduceLeDiff, if_true, if_false, eq_self, gfld_in, gobj_in, garr_in, garq_in, glen_in, gisO_in, ex_some, List.getElem?_cons_succ, List.getElem?_cons_zero, List.length_cons, List.length_nil, List.set_cons_succ, List.set_cons_zero, Nat.reduceLT, va_up_eq, va_up_nl, mW_0, f3, hw, hc1]
      rfl
    | succ D ih =>
      intro j m v4 hj
      have hc1 : ¬ nI wr < nI j := nI_nlt (by omega) (by omega)
      rw [eX6_tollOf_4]
      simp only [eX6_tollOf_0, eX6_tollOf_1, eX6_tollOf_1b, eX6_tollOf_1c, eX6_tollOf_1d, eX6_tollOf_2, eX6_tollOf_3, eX6_tollOf_3b, eX6_tollOf_3c, eX6_tollOf_3d, eX6_tollOf_5, eX6_tollOf_6, eX6_tollOf_7, eX6_tollOf_8, eX6_tollOf_11, eX6_tollOf_14, eX6_tollOf_15, eX6_tollOf_16, eX6_tollOf_17, eX6_tollOf_18, eX6_tollOf_21, eX6_tollOf_24, eX6_tollOf_24b, eX6_tollOf_24c, eX6_tollOf_24d, eX6_tollOf_26, eX6_tollOf_28, eX6_tollOf_29, eX6_tollOf_32, eX6_tollOf_34, eX6_tollOf_37, eX6_tollOf_38, eX6_tollOf_38b, eX6_tollOf_38c, eX6_tollOf_38d, eX6_tollOf_39, eX6_tollOf_39b, eX6_tollOf_39c, eX6_tollOf_39d, eX6_tollOf_42, eX6_tollOf_45, eX6_tollOf_46, Option.toList_some, Option.toList_none, List.cons_append, List.nil_append, gcat_nil, gcat_cons, cat_int, cat_ref, cat_null, cat_ret, cat_long, grc_ref, narZ0, narZ1, true_and, and_true, decide_true, Nat.reduceAdd, Nat.reduceLeDiff, if_true, if_false, eq_self, gfld_in, gobj_in, garr_in, garq_in, glen_in, gisO_in, ex_some, List.getElem?_cons_succ, List.getElem?_cons_zero, List.length_cons, List.length_nil, List.set_cons_succ, List.set_cons_zero, Nat.reduceLT, va_up_eq, va_up_nl, mW_0, f3, hw, hc1, c6_binBy hL hal hc, c6_tollTo hL hal, nI_1, ih (j + 1) _ _ (by omega)]
      rw [gfor]
      by_cases q : mtl nw ap (nI (mbc nw fz fb ap L c (nI j))) 0 L 0 ≤ m
      · rw [if_pos q, if_pos q]
      · rw [if_neg q, if_neg q]
  simp only [eX6_tollOf_0, eX6_tollOf_1, eX6_tollOf_1b, eX6_tollOf_1c, eX6_tollOf_1d, eX6_tollOf_2, eX6_tollOf_3, eX6_tollOf_3b, eX6_tollOf_3c, eX6_tollOf_3d, eX6_tollOf_5, eX6_tollOf_6, eX6_tollOf_7, eX6_tollOf_8, eX6_tollOf_11, eX6_tollOf_14, eX6_tollOf_15, eX6_tollOf_16, eX6_tollOf_17, eX6_tollOf_18, eX6_tollOf_21, eX6_tollOf_24, eX6_tollOf_24b, eX6_tollOf_24c, eX6_tollOf_24d, eX6_tollOf_26, eX6_tollOf_28, eX6_tollOf_29, eX6_tollOf_32, eX6_tollOf_34, eX6_tollOf_37, eX6_tollOf_38, eX6_tollOf_38b, eX6_tollOf_38c, eX6_tollOf_38d, eX6_tollOf_39, eX6_tollOf_39b, eX6_tollOf_39c, eX6_tollOf_39d, eX6_tollOf_42, eX6_tollOf_45, eX6_tollOf_46, Option.toList_some, Option.toList_none, List.cons_append, List.nil_append, gcat_nil, gcat_cons, cat_int, cat_ref, cat_null, cat_ret, cat_long, grc_ref, narZ0, narZ1, true_and, and_true, decide_true, Nat.reduceAdd, Nat.reduceLeDiff, if_true, if_false, eq_self, gfld_in, gobj_in, garr_in, garq_in, glen_in, gisO_in, ex_some, List.getElem?_cons_succ, List.getElem?_cons_zero, List.length_cons, List.length_nil, List.set_cons_succ, List.set_cons_zero, Nat.reduceLT, va_up_eq, va_up_nl]
  exact loop (wr + 1) 0 0 _ (by omega)
theorem c6_areApart (hL : L ≤ 6) (hK : K ≤ 6) (h0 : nw 0 = nI K) (hal : ∀ p, p < L → al p = nI (ap p) ∧ ap p < 6) (hW : ∀ c, c < K → nw (5 * c + 4) = nI (We c) ∧ We c < 1000) {a : Int32} {wr : Nat} (hwr : wr < 1000) : gEv (gT X) 147 0 [.ref o, .int a, .int (nI wr), .null, .null, .null, .null] [] n k (mW w o nw rd ps de im ik tx le pz tk ta va fa se it al (nI L) fz fb be fo fm io) Q ↔ Q (some (.int (maa (fun c => mbs (fun x => mbc nw fz fb ap L c (nI x)) (if nI c = a then wr else We c)) 0 K 0 1))) n k (mW w o nw rd ps de im ik tx le pz tk ta va fa se it al (nI L) fz fb be fo fm io) := by
  have v0 : vp_in 0 59 := vp_in_nI (n := 0) (by omega) (by omega)
  have y0 : (0 : Int32).toNatClampNeg = 0 := by decide
  have hmaa : ∀ (bs : Nat → Int32) (D j : Nat) (had are : Int32), are = 0 ∨ are = 1 → (maa bs j D had are = 0 ∨ maa bs j D had are = 1) := by
    intro bs D
    induction D with
    | zero => intro j had are h; exact h
    | succ D ih =>
      intro j had are h
      rw [maa]
      refine ih _ _ _ ?_
      by_cases q : are = 0
      · rw [if_pos q]; exact Or.inl rfl
      · rw [if_neg q]
        by_cases q2 : had &&& bs j = 0
        · rw [if_pos q2]; exact Or.inr rfl
        · rw [if_neg q2]; exact Or.inl rfl
  have loop : ∀ (D j : Nat) (had are : Int32) (v6 : Value), j + D = K → are = 0 ∨ are = 1 → (gEv (gT X) 147 8 [.ref o, .int a, .int (nI wr), .int had, .int are, .int (nI j), v6] [] n k (mW w o nw rd ps de im ik tx le pz tk ta va fa se it al (nI L) fz fb be fo fm io) Q ↔ Q (some (.int (maa (fun c => mbs (fun x => mbc nw fz fb ap L c (nI x)) (if nI c = a then wr else We c)) j D had are))) n k (mW w o nw rd ps de im ik tx le pz tk ta va fa se it al (nI L) fz fb be fo fm io)) := by
    intro D
    induction D with
    | zero =>
      intro j had are v6 hj h01
      have hc1 : nI K ≤ nI j := nI_le (by omega) (by omega)
      rw [eX6_areApart_8]
      rcases h01 with rfl | rfl
      · simp only [eX6_areApart_0, eX6_areApart_1, eX6_areApart_1b, eX6_areApart_1c, eX6_areApart_1d, eX6_areApart_2, eX6_areApart_3, eX6_areApart_3b, eX6_areApart_3c, eX6_areApart_3d, eX6_areApart_5, eX6_areApart_6, eX6_areApart_6b, eX6_areApart_6c, eX6_areApart_6d, eX6_areApart_10, eX6_areApart_11, eX6_areApart_14, eX6_areApart_15, eX6_areApart_16, eX6_areApart_19, eX6_areApart_20, eX6_areApart_22, eX6_areApart_24, eX6_areApart_25, eX6_areApart_28, eX6_areApart_29, eX6_areApart_32, eX6_areApart_33, eX6_areApart_35, eX6_areApart_36, eX6_areApart_39, eX6_areApart_42, eX6_areApart_42b, eX6_areApart_42c, eX6_areApart_42d, eX6_areApart_44, eX6_areApart_46, eX6_areApart_49, eX6_areApart_50, eX6_areApart_52, eX6_areApart_53, eX6_areApart_56, eX6_areApart_57, eX6_areApart_60, eX6_areApart_61, eX6_areApart_61b, eX6_areApart_61c, eX6_areApart_61d, eX6_areApart_63, eX6_areApart_64, eX6_areApart_66, eX6_areApart_67, eX6_areApart_67b, eX6_areApart_67c, eX6_areApart_67d, eX6_areApart_68, eX6_areApart_68b, eX6_areApart_68c, eX6_areApart_68d, eX6_areApart_71, eX6_areApart_74, eX6_areApart_76, Option.toList_some, Option.toList_none, List.cons_append, List.nil_append, gcat_nil, gcat_cons, cat_int, cat_ref, cat_null, cat_ret, cat_long, grc_ref, narZ0, narZ1, true_and, and_true, decide_true, Nat.reduceAdd, Nat.reduceLeDiff, if_true, if_false, eq_self, gfld_in, gobj_in, garr_in, garq_in, glen_in, gisO_in, ex_some, List.getElem?_cons_succ, List.getElem?_cons_zero, List.length_cons, List.length_nil, List.set_cons_succ, List.set_cons_zero, Nat.reduceLT, va_up_eq, va_up_nl, mW_0, mW_1, v0, y0, h0, hc1]
        rfl
      · simp only [eX6_areApart_0, eX6_areApart_1, eX6_areApart_1b, eX6_areApart_1c, eX6_areApart_1d, eX6_areApart_2, eX6_areApart_3, eX6_areApart_3b, eX6_areApart_3c, eX6_areApart_3d, eX6_areApart_5, eX6_areApart_6, eX6_areApart_6b, eX6_areApart_6c, eX6_areApart_6d, eX6_areApart_10, eX6_areApart_11, eX6_areApart_14, eX6_areApart_15, eX6_areApart_16, eX6_areApart_19, eX6_areApart_20, eX6_areApart_22, eX6_areApart_24, eX6_areApart_25, eX6_areApart_28, eX6_areApart_29, eX6_areApart_32, eX6_areApart_33, eX6_areApart_35, eX6_areApart_36, eX6_areApart_39, eX6_areApart_42, eX6_areApart_42b, eX6_areApart_42c, eX6_areApart_42d, eX6_areApart_44, eX6_areApart_46, eX6_areApart_49, eX6_areApart_50, eX6_areApart_52, eX6_areApart_53, eX6_areApart_56, eX6_areApart_57, eX6_areApart_60, eX6_areApart_61, eX6_areApart_61b, eX6_areApart_61c, eX6_areApart_61d, eX6_areApart_63, eX6_areApart_64, eX6_areApart_66, eX6_areApart_67, eX6_areApart_67b, eX6_areApart_67c, eX6_areApart_67d, eX6_areApart_68, eX6_areApart_68b, eX6_areApart_68c, eX6_areApart_68d, eX6_areApart_71, eX6_areApart_74, eX6_areApart_76, Option.toList_some, Option.toList_none, List.cons_append, List.nil_append, gcat_nil, gcat_cons, cat_int, cat_ref, cat_null, cat_ret, cat_long, grc_ref, narZ0, narZ1, true_and, and_true, decide_true, Nat.reduceAdd, Nat.reduceLeDiff, if_true, if_false, eq_self, gfld_in, gobj_in, garr_in, garq_in, glen_in, gisO_in, ex_some, List.getElem?_cons_succ, List.getElem?_cons_zero, List.length_cons, List.length_nil, List.set_cons_succ, List.set_cons_zero, Nat.reduceLT, va_up_eq, va_up_nl, mW_0, mW_1, v0, y0, h0, hc1]
        rfl
    | succ D ih =>
      intro j had are v6 hj h01
      have hc1 : ¬ nI K ≤ nI j := nI_ge (by omega) (by omega)
      have hj6 : j < 6 := by omega
      obtain ⟨hw1, hw2⟩ := hW j (by omega)
      have f3 : ∀ {Q}, gEv (gT X) 138 0 [.ref o, .int (nI j), .int 3] [] n k (mW w o nw rd ps de im ik tx le pz tk ta va fa se it al (nI L) fz fb be fo fm io) Q ↔ Q (some (.int (nw (5 * j + 4)))) n k (mW w o nw rd ps de im ik tx le pz tk ta va fa se it al (nI L) fz fb be fo fm io) := c6_ofKind hj6 (f := 3) (by decide)
      have h10 : ¬ (1 : Int32) = 0 := by decide
      have tail : ∀ (wq : Nat), wq < 1000 → (gEv (gT X) 147 39 [.ref o, .int a, .int (nI wr), .int had, .int are, .int (nI j), v6] [.int (nI wq), .int (nI j), .ref o] n k (mW w o nw rd ps de im ik tx le pz tk ta va fa se it al (nI L) fz fb be fo fm io) Q ↔ Q (some (.int (maa (fun c => mbs (fun x => mbc nw fz fb ap L c (nI x)) (if nI c = a then wr else We c)) (j + 1) D (had ||| mbs (fun x => mbc nw fz fb ap L j (nI x)) wq) (if are = 0 then 0 else if had &&& mbs (fun x => mbc nw fz fb ap L j (nI x)) wq = 0 then 1 else 0)))) n k (mW w o nw rd ps de im ik tx le pz tk ta va fa se it al (nI L) fz fb be fo fm io)) := by
        intro wq hwq
        simp only [eX6_areApart_39, eX6_areApart_42, eX6_areApart_42b, eX6_areApart_42c, eX6_areApart_42d, eX6_areApart_44, eX6_areApart_46, eX6_areApart_49, eX6_areApart_50, eX6_areApart_52, eX6_areApart_53, eX6_areApart_56, eX6_areApart_57, eX6_areApart_60, eX6_areApart_61, eX6_areApart_61b, eX6_areApart_61c, eX6_areApart_61d, eX6_areApart_63, eX6_areApart_64, eX6_areApart_66, eX6_areApart_67, eX6_areApart_67b, eX6_areApart_67c, eX6_areApart_67d, eX6_areApart_68, eX6_areApart_68b, eX6_areApart_68c, eX6_areApart_68d, eX6_areApart_71, eX6_areApart_74, eX6_areApart_76, Option.toList_some, Option.toList_none, List.cons_append, List.nil_append, gcat_nil, gcat_cons, cat_int, cat_ref, cat_null, cat_ret, cat_long, grc_ref, narZ0, narZ1, true_and, and_true, decide_true, Nat.reduceAdd, Nat.reduceLeDiff, if_true, if_false, eq_self, gfld_in, gobj_in, garr_in, garq_in, glen_in, gisO_in, ex_some, List.getElem?_cons_succ, List.getElem?_cons_zero, List.length_cons, List.length_nil, List.set_cons_succ, List.set_cons_zero, Nat.reduceLT, va_up_eq, va_up_nl, mW_0, c6_binsOf hL hal hj6 hwq, nI_1]
        by_cases q1 : are = 0
        · rw [if_pos q1, if_pos q1]
          exact ih (j + 1) _ 0 _ (by omega) (Or.inl rfl)
        · rw [if_neg q1, if_neg q1]
          by_cases q2 : had &&& mbs (fun x => mbc nw fz fb ap L j (nI x)) wq = 0
          · rw [if_neg (fun z => z q2), if_pos q2]
            exact ih (j + 1) _ 1 _ (by omega) (Or.inr rfl)
          · rw [if_pos q2, if_neg q2]
            exact ih (j + 1) _ 0 _ (by omega) (Or.inl rfl)
      rw [eX6_areApart_8]
      simp only [eX6_areApart_10, eX6_areApart_11, eX6_areApart_14, eX6_areApart_15, eX6_areApart_16, eX6_areApart_19, eX6_areApart_20, eX6_areApart_22, eX6_areApart_24, eX6_areApart_25, eX6_areApart_28, eX6_areApart_29, eX6_areApart_32, eX6_areApart_33, eX6_areApart_35, eX6_areApart_36, Option.toList_some, Option.toList_none, List.cons_append, List.nil_append, gcat_nil, gcat_cons, cat_int, cat_ref, cat_null, cat_ret, cat_long, grc_ref, narZ0, narZ1, true_and, and_true, decide_true, Nat.reduceAdd, Nat.reduceLeDiff, if_true, if_false, eq_self, gfld_in, gobj_in, garr_in, garq_in, glen_in, gisO_in, ex_some, List.getElem?_cons_succ, List.getElem?_cons_zero, List.length_cons, List.length_nil, List.set_cons_succ, List.set_cons_zero, Nat.reduceLT, va_up_eq, va_up_nl, mW_0, mW_1, v0, y0, h0, hc1, f3, hw1]
      rw [maa]
      by_cases q : nI j = a
      · rw [if_neg (fun z => z q), if_pos q]
        exact tail wr hwr
      · rw [if_pos q, if_neg q]
        exact tail (We j) hw2
  simp only [eX6_areApart_0, eX6_areApart_1, eX6_areApart_1b, eX6_areApart_1c, eX6_areApart_1d, eX6_areApart_2, eX6_areApart_3, eX6_areApart_3b, eX6_areApart_3c, eX6_areApart_3d, eX6_areApart_5, eX6_areApart_6, eX6_areApart_6b, eX6_areApart_6c, eX6_areApart_6d, eX6_areApart_10, eX6_areApart_11, eX6_areApart_14, eX6_areApart_15, eX6_areApart_16, eX6_areApart_19, eX6_areApart_20, eX6_areApart_22, eX6_areApart_24, eX6_areApart_25, eX6_areApart_28, eX6_areApart_29, eX6_areApart_32, eX6_areApart_33, eX6_areApart_35, eX6_areApart_36, eX6_areApart_39, eX6_areApart_42, eX6_areApart_42b, eX6_areApart_42c, eX6_areApart_42d, eX6_areApart_44, eX6_areApart_46, eX6_areApart_49, eX6_areApart_50, eX6_areApart_52, eX6_areApart_53, eX6_areApart_56, eX6_areApart_57, eX6_areApart_60, eX6_areApart_61, eX6_areApart_61b, eX6_areApart_61c, eX6_areApart_61d, eX6_areApart_63, eX6_areApart_64, eX6_areApart_66, eX6_areApart_67, eX6_areApart_67b, eX6_areApart_67c, eX6_areApart_67d, eX6_areApart_68, eX6_areApart_68b, eX6_areApart_68c, eX6_areApart_68d, eX6_areApart_71, eX6_areApart_74, eX6_areApart_76, Option.toList_some, Option.toList_none, List.cons_append, List.nil_append, gcat_nil, gcat_cons, cat_int, cat_ref, cat_null, cat_ret, cat_long, grc_ref, narZ0, narZ1, true_and, and_true, decide_true, Nat.reduceAdd, Nat.reduceLeDiff, if_true, if_false, eq_self, gfld_in, gobj_in, garr_in, garq_in, glen_in, gisO_in, ex_some, List.getElem?_cons_succ, List.getElem?_cons_zero, List.length_cons, List.length_nil, List.set_cons_succ, List.set_cons_zero, Nat.reduceLT, va_up_eq, va_up_nl]
  exact loop K 0 0 1 _ (by omega) (Or.inr rfl)
theorem c6_priceNow (hL : L ≤ 6) (hK : K ≤ 6) (h0 : nw 0 = nI K) (hal : ∀ p, p < L → al p = nI (ap p) ∧ ap p < 6) (hW : ∀ c, c < K → nw (5 * c + 4) = nI (We c) ∧ We c < 1000) : gEv (gT X) 148 0 [.ref o, .null, .null] [] n k (mW w o nw rd ps de im ik tx le pz tk ta va fa se it al (nI L) fz fb be fo fm io) Q ↔ Q (some (.int (mpr nw (fun c => mto (fun x => mtl nw ap (nI (mbc nw fz fb ap L c (nI x))) 0 L 0) (We c)) K))) n k (mW w o nw rd ps de im ik tx le pz tk ta va fa se it al (nI L) fz fb be fo fm io) := by
  have v0 : vp_in 0 59 := vp_in_nI (n := 0) (by omega) (by omega)
  have y0 : (0 : Int32).toNatClampNeg = 0 := by decide
  have loop : ∀ (D j : Nat) (a : Int32), j + D = K → (gEv (gT X) 148 4 [.ref o, .int a, .int (nI j)] [] n k (mW w o nw rd ps de im ik tx le pz tk ta va fa se it al (nI L) fz fb be fo fm io) Q ↔ Q (some (.int (gfor (fun c a => a + nw (5 * c + 5) * mto (fun x => mtl nw ap (nI (mbc nw fz fb ap L c (nI x))) 0 L 0) (We c)) j D a))) n k (mW w o nw rd ps de im ik tx le pz tk ta va fa se it al (nI L) fz fb be fo fm io)) := by
    intro D
    induction D with
    | zero =>
      intro j a hj
      have hc1 : nI K ≤ nI j := nI_le (by omega) (by omega)
      rw [eX6_priceNow_4]
      simp only [eX6_priceNow_0, eX6_priceNow_1, eX6_priceNow_1b, eX6_priceNow_1c, eX6_priceNow_1d, eX6_priceNow_2, eX6_priceNow_3, eX6_priceNow_3b, eX6_priceNow_3c, eX6_priceNow_3d, eX6_priceNow_5, eX6_priceNow_6, eX6_priceNow_9, eX6_priceNow_10, eX6_priceNow_11, eX6_priceNow_14, eX6_priceNow_15, eX6_priceNow_16, eX6_priceNow_17, eX6_priceNow_18, eX6_priceNow_21, eX6_priceNow_22, eX6_priceNow_23, eX6_priceNow_26, eX6_priceNow_27, eX6_priceNow_28, eX6_priceNow_28b, eX6_priceNow_28c, eX6_priceNow_28d, eX6_priceNow_29, eX6_priceNow_29b, eX6_priceNow_29c, eX6_priceNow_29d, eX6_priceNow_32, eX6_priceNow_35, eX6_priceNow_36, Option.toList_some, Option.toList_none, List.cons_append, List.nil_append, gcat_nil, gcat_cons, cat_int, cat_ref, cat_null, cat_ret, cat_long, grc_ref, narZ0, narZ1, true_and, and_true, decide_true, Nat.reduceAdd, Nat.reduceLeDiff, if_true, if_false, eq_self, gfld_in, gobj_in, garr_in, garq_in, glen_in, gisO_in, ex_some, List.getElem?_cons_succ, List.getElem?_cons_zero, List.length_cons, List.length_nil, List.set_cons_succ, List.set_cons_zero, Nat.reduceLT, va_up_eq, va_up_nl, mW_0, mW_1, v0, y0, h0, hc1]
      rfl
    | succ D ih =>
      intro j a hj
      have hc1 : ¬ nI K ≤ nI j := nI_ge (by omega) (by omega)
      have hj6 : j < 6 := by omega
      obtain ⟨hw1, hw2⟩ := hW j (by omega)
      have f4 : ∀ {Q}, gEv (gT X) 138 0 [.ref o, .int (nI j), .int 4] [] n k (mW w o nw rd ps de im ik tx le pz tk ta va fa se it al (nI L) fz fb be fo fm io) Q ↔ Q (some (.int (nw (5 * j + 5)))) n k (mW w o nw rd ps de im ik tx le pz tk ta va fa se it al (nI L) fz fb be fo fm io) := c6_ofKind hj6 (f := 4) (by decide)
      rw [eX6_priceNow_4]
      simp only [eX6_priceNow_0, eX6_priceNow_1, eX6_priceNow_1b, eX6_priceNow_1c, eX6_priceNow_1d, eX6_priceNow_2, eX6_priceNow_3, eX6_priceNow_3b, eX6_priceNow_3c, eX6_priceNow_3d, eX6_priceNow_5, eX6_priceNow_6, eX6_priceNow_9, eX6_priceNow_10, eX6_priceNow_11, eX6_priceNow_14, eX6_priceNow_15, eX6_priceNow_16, eX6_priceNow_17, eX6_priceNow_18, eX6_priceNow_21, eX6_priceNow_22, eX6_priceNow_23, eX6_priceNow_26, eX6_priceNow_27, eX6_priceNow_28, eX6_priceNow_28b, eX6_priceNow_28c, eX6_priceNow_28d, eX6_priceNow_29, eX6_priceNow_29b, eX6_priceNow_29c, eX6_priceNow_29d, eX6_priceNow_32, eX6_priceNow_35, eX6_priceNow_36, Option.toList_some, Option.toList_none, List.cons_append, List.nil_append, gcat_nil, gcat_cons, cat_int, cat_ref, cat_null, cat_ret, cat_long, grc_ref, narZ0, narZ1, true_and, and_true, decide_true, Nat.reduceAdd, Nat.reduceLeDiff, if_true, if_false, eq_self, gfld_in, gobj_in, garr_in, garq_in, glen_in, gisO_in, ex_some, List.getElem?_cons_succ, List.getElem?_cons_zero, List.length_cons, List.length_nil, List.set_cons_succ, List.set_cons_zero, Nat.reduceLT, va_up_eq, va_up_nl, mW_0, mW_1, v0, y0, h0, hc1, f4, c6_tollOf hL hal hj6 hw1 hw2, nI_1, ih (j + 1) _ (by omega)]
      rfl
  simp only [eX6_priceNow_0, eX6_priceNow_1, eX6_priceNow_1b, eX6_priceNow_1c, eX6_priceNow_1d, eX6_priceNow_2, eX6_priceNow_3, eX6_priceNow_3b, eX6_priceNow_3c, eX6_priceNow_3d, eX6_priceNow_5, eX6_priceNow_6, eX6_priceNow_9, eX6_priceNow_10, eX6_priceNow_11, eX6_priceNow_14, eX6_priceNow_15, eX6_priceNow_16, eX6_priceNow_17, eX6_priceNow_18, eX6_priceNow_21, eX6_priceNow_22, eX6_priceNow_23, eX6_priceNow_26, eX6_priceNow_27, eX6_priceNow_28, eX6_priceNow_28b, eX6_priceNow_28c, eX6_priceNow_28d, eX6_priceNow_29, eX6_priceNow_29b, eX6_priceNow_29c, eX6_priceNow_29d, eX6_priceNow_32, eX6_priceNow_35, eX6_priceNow_36, Option.toList_some, Option.toList_none, List.cons_append, List.nil_append, gcat_nil, gcat_cons, cat_int, cat_ref, cat_null, cat_ret, cat_long, grc_ref, narZ0, narZ1, true_and, and_true, decide_true, Nat.reduceAdd, Nat.reduceLeDiff, if_true, if_false, eq_self, gfld_in, gobj_in, garr_in, garq_in, glen_in, gisO_in, ex_some, List.getElem?_cons_succ, List.getElem?_cons_zero, List.length_cons, List.length_nil, List.set_cons_succ, List.set_cons_zero, Nat.reduceLT, va_up_eq, va_up_nl]
  exact loop K 0 0 (by omega)
theorem c6_kindsOf (hL : L ≤ 6) (hK : K ≤ 6) (h0 : nw 0 = nI K) (hal : ∀ p, p < L → al p = nI (ap p) ∧ ap p < 6) (hW : ∀ c, c < K → nw (5 * c + 4) = nI (We c) ∧ We c < 1000) {b : Int32} : gEv (gT X) 149 0 [.ref o, .int b, .null, .null] [] n k (mW w o nw rd ps de im ik tx le pz tk ta va fa se it al (nI L) fz fb be fo fm io) Q ↔ Q (some (.int (mks (fun c => mbs (fun x => mbc nw fz fb ap L c (nI x)) (We c)) b K))) n k (mW w o nw rd ps de im ik tx le pz tk ta va fa se it al (nI L) fz fb be fo fm io) := by
  have v0 : vp_in 0 59 := vp_in_nI (n := 0) (by omega) (by omega)
  have y0 : (0 : Int32).toNatClampNeg = 0 := by decide
  have loop : ∀ (D j : Nat) (a : Int32), j + D = K → (gEv (gT X) 149 4 [.ref o, .int b, .int a, .int (nI j)] [] n k (mW w o nw rd ps de im ik tx le pz tk ta va fa se it al (nI L) fz fb be fo fm io) Q ↔ Q (some (.int (gfor (fun c a => a ||| (if (mbs (fun x => mbc nw fz fb ap L c (nI x)) (We c) >>> (b &&& 31)) &&& 1 = 1 then 1 <<< (nI c &&& 31) else 0)) j D a))) n k (mW w o nw rd ps de im ik tx le pz tk ta va fa se it al (nI L) fz fb be fo fm io)) := by
    intro D
    induction D with
    | zero =>
      intro j a hj
      have hc1 : nI K ≤ nI j := nI_le (by omega) (by omega)
      rw [eX6_kindsOf_4]
      simp only [eX6_kindsOf_0, eX6_kindsOf_1, eX6_kindsOf_1b, eX6_kindsOf_1c, eX6_kindsOf_1d, eX6_kindsOf_2, eX6_kindsOf_3, eX6_kindsOf_3b, eX6_kindsOf_3c, eX6_kindsOf_3d, eX6_kindsOf_5, eX6_kindsOf_6, eX6_kindsOf_9, eX6_kindsOf_10, eX6_kindsOf_11, eX6_kindsOf_14, eX6_kindsOf_15, eX6_kindsOf_16, eX6_kindsOf_17, eX6_kindsOf_18, eX6_kindsOf_19, eX6_kindsOf_20, eX6_kindsOf_23, eX6_kindsOf_26, eX6_kindsOf_27, eX6_kindsOf_30, eX6_kindsOf_33, eX6_kindsOf_34, eX6_kindsOf_35, eX6_kindsOf_36, eX6_kindsOf_39, eX6_kindsOf_40, eX6_kindsOf_41, eX6_kindsOf_41b, eX6_kindsOf_41c, eX6_kindsOf_41d, eX6_kindsOf_42, eX6_kindsOf_42b, eX6_kindsOf_42c, eX6_kindsOf_42d, eX6_kindsOf_45, eX6_kindsOf_48, eX6_kindsOf_49, Option.toList_some, Option.toList_none, List.cons_append, List.nil_append, gcat_nil, gcat_cons, cat_int, cat_ref, cat_null, cat_ret, cat_long, grc_ref, narZ0, narZ1, true_and, and_true, decide_true, Nat.reduceAdd, Nat.reduceLeDiff, if_true, if_false, eq_self, gfld_in, gobj_in, garr_in, garq_in, glen_in, gisO_in, ex_some, List.getElem?_cons_succ, List.getElem?_cons_zero, List.length_cons, List.length_nil, List.set_cons_succ, List.set_cons_zero, Nat.reduceLT, va_up_eq, va_up_nl, mW_0, mW_1, v0, y0, h0, hc1]
      rfl
    | succ D ih =>
      intro j a hj
      have hc1 : ¬ nI K ≤ nI j := nI_ge (by omega) (by omega)
      have hj6 : j < 6 := by omega
      obtain ⟨hw1, hw2⟩ := hW j (by omega)
      have f3 : ∀ {Q}, gEv (gT X) 138 0 [.ref o, .int (nI j), .int 3] [] n k (mW w o nw rd ps de im ik tx le pz tk ta va fa se it al (nI L) fz fb be fo fm io) Q ↔ Q (some (.int (nw (5 * j + 4)))) n k (mW w o nw rd ps de im ik tx le pz tk ta va fa se it al (nI L) fz fb be fo fm io) := c6_ofKind hj6 (f := 3) (by decide)
      rw [eX6_kindsOf_4]
      simp only [eX6_kindsOf_0, eX6_kindsOf_1, eX6_kindsOf_1b, eX6_kindsOf_1c, eX6_kindsOf_1d, eX6_kindsOf_2, eX6_kindsOf_3, eX6_kindsOf_3b, eX6_kindsOf_3c, eX6_kindsOf_3d, eX6_kindsOf_5, eX6_kindsOf_6, eX6_kindsOf_9, eX6_kindsOf_10, eX6_kindsOf_11, eX6_kindsOf_14, eX6_kindsOf_15, eX6_kindsOf_16, eX6_kindsOf_17, eX6_kindsOf_18, eX6_kindsOf_19, eX6_kindsOf_20, eX6_kindsOf_23, eX6_kindsOf_26, eX6_kindsOf_27, eX6_kindsOf_30, eX6_kindsOf_33, eX6_kindsOf_34, eX6_kindsOf_35, eX6_kindsOf_36, eX6_kindsOf_39, eX6_kindsOf_40, eX6_kindsOf_41, eX6_kindsOf_41b, eX6_kindsOf_41c, eX6_kindsOf_41d, eX6_kindsOf_42, eX6_kindsOf_42b, eX6_kindsOf_42c, eX6_kindsOf_42d, eX6_kindsOf_45, eX6_kindsOf_48, eX6_kindsOf_49, Option.toList_some, Option.toList_none, List.cons_append, List.nil_append, gcat_nil, gcat_cons, cat_int, cat_ref, cat_null, cat_ret, cat_long, grc_ref, narZ0, narZ1, true_and, and_true, decide_true, Nat.reduceAdd, Nat.reduceLeDiff, if_true, if_false, eq_self, gfld_in, gobj_in, garr_in, garq_in, glen_in, gisO_in, ex_some, List.getElem?_cons_succ, List.getElem?_cons_zero, List.length_cons, List.length_nil, List.set_cons_succ, List.set_cons_zero, Nat.reduceLT, va_up_eq, va_up_nl, mW_0, mW_1, v0, y0, h0, hc1, f3, hw1, c6_binsOf hL hal hj6 hw2, c6_has, gb_0, nI_1, ih (j + 1) _ (by omega)]
      rw [gfor]
      by_cases q : (mbs (fun x => mbc nw fz fb ap L j (nI x)) (We j) >>> (b &&& 31)) &&& 1 = 1
      · rw [if_neg (fun z => z q), if_pos q]
      · rw [if_pos q, if_neg q]
  simp only [eX6_kindsOf_0, eX6_kindsOf_1, eX6_kindsOf_1b, eX6_kindsOf_1c, eX6_kindsOf_1d, eX6_kindsOf_2, eX6_kindsOf_3, eX6_kindsOf_3b, eX6_kindsOf_3c, eX6_kindsOf_3d, eX6_kindsOf_5, eX6_kindsOf_6, eX6_kindsOf_9, eX6_kindsOf_10, eX6_kindsOf_11, eX6_kindsOf_14, eX6_kindsOf_15, eX6_kindsOf_16, eX6_kindsOf_17, eX6_kindsOf_18, eX6_kindsOf_19, eX6_kindsOf_20, eX6_kindsOf_23, eX6_kindsOf_26, eX6_kindsOf_27, eX6_kindsOf_30, eX6_kindsOf_33, eX6_kindsOf_34, eX6_kindsOf_35, eX6_kindsOf_36, eX6_kindsOf_39, eX6_kindsOf_40, eX6_kindsOf_41, eX6_kindsOf_41b, eX6_kindsOf_41c, eX6_kindsOf_41d, eX6_kindsOf_42, eX6_kindsOf_42b, eX6_kindsOf_42c, eX6_kindsOf_42d, eX6_kindsOf_45, eX6_kindsOf_48, eX6_kindsOf_49, Option.toList_some, Option.toList_none, List.cons_append, List.nil_append, gcat_nil, gcat_cons, cat_int, cat_ref, cat_null, cat_ret, cat_long, grc_ref, narZ0, narZ1, true_and, and_true, decide_true, Nat.reduceAdd, Nat.reduceLeDiff, if_true, if_false, eq_self, gfld_in, gobj_in, garr_in, garq_in, glen_in, gisO_in, ex_some, List.getElem?_cons_succ, List.getElem?_cons_zero, List.length_cons, List.length_nil, List.set_cons_succ, List.set_cons_zero, Nat.reduceLT, va_up_eq, va_up_nl]
  exact loop K 0 0 (by omega)
theorem c6_doubtful (hL : L ≤ 6) (hK : K ≤ 6) (h0 : nw 0 = nI K) (hal : ∀ p, p < L → al p = nI (ap p) ∧ ap p < 6) (hW : ∀ c, c < K → nw (5 * c + 4) = nI (We c) ∧ We c < 1000) : gEv (gT X) 165 0 [.ref o, .null, .null] [] n k (mW w o nw rd ps de im ik tx le pz tk ta va fa se it al (nI L) fz fb be fo fm io) Q ↔ Q (some (.int (mdb (fun c => mbs (fun x => mbc nw fz fb ap L c (nI x)) (We c)) K))) n k (mW w o nw rd ps de im ik tx le pz tk ta va fa se it al (nI L) fz fb be fo fm io) := by
  have v0 : vp_in 0 59 := vp_in_nI (n := 0) (by omega) (by omega)
  have y0 : (0 : Int32).toNatClampNeg = 0 := by decide
  have loop : ∀ (D j : Nat) (a : Int32), j + D = K → (gEv (gT X) 165 4 [.ref o, .int a, .int (nI j)] [] n k (mW w o nw rd ps de im ik tx le pz tk ta va fa se it al (nI L) fz fb be fo fm io) Q ↔ Q (some (.int (gfor (fun c a => a ||| (if mon (mbs (fun x => mbc nw fz fb ap L c (nI x)) (We c)) ≤ 1 then (0 : Int32) else 1 <<< (nI c &&& 31))) j D a))) n k (mW w o nw rd ps de im ik tx le pz tk ta va fa se it al (nI L) fz fb be fo fm io)) := by
    intro D
    induction D with
    | zero =>
      intro j a hj
      have hc1 : nI K ≤ nI j := nI_le (by omega) (by omega)
      rw [eX6_doubtful_4]
      simp only [eX6_doubtful_0, eX6_doubtful_1, eX6_doubtful_1b, eX6_doubtful_1c, eX6_doubtful_1d, eX6_doubtful_2, eX6_doubtful_3, eX6_doubtful_3b, eX6_doubtful_3c, eX6_doubtful_3d, eX6_doubtful_5, eX6_doubtful_6, eX6_doubtful_9, eX6_doubtful_10, eX6_doubtful_11, eX6_doubtful_14, eX6_doubtful_15, eX6_doubtful_16, eX6_doubtful_17, eX6_doubtful_18, eX6_doubtful_19, eX6_doubtful_20, eX6_doubtful_23, eX6_doubtful_26, eX6_doubtful_29, eX6_doubtful_30, eX6_doubtful_33, eX6_doubtful_34, eX6_doubtful_35, eX6_doubtful_36, eX6_doubtful_39, eX6_doubtful_40, eX6_doubtful_41, eX6_doubtful_41b, eX6_doubtful_41c, eX6_doubtful_41d, eX6_doubtful_42, eX6_doubtful_42b, eX6_doubtful_42c, eX6_doubtful_42d, eX6_doubtful_45, eX6_doubtful_48, eX6_doubtful_49, Option.toList_some, Option.toList_none, List.cons_append, List.nil_append, gcat_nil, gcat_cons, cat_int, cat_ref, cat_null, cat_ret, cat_long, grc_ref, narZ0, narZ1, true_and, and_true, decide_true, Nat.reduceAdd, Nat.reduceLeDiff, if_true, if_false, eq_self, gfld_in, gobj_in, garr_in, garq_in, glen_in, gisO_in, ex_some, List.getElem?_cons_succ, List.getElem?_cons_zero, List.length_cons, List.length_nil, List.set_cons_succ, List.set_cons_zero, Nat.reduceLT, va_up_eq, va_up_nl, mW_0, mW_1, v0, y0, h0, hc1]
      rfl
    | succ D ih =>
      intro j a hj
      have hc1 : ¬ nI K ≤ nI j := nI_ge (by omega) (by omega)
      have hj6 : j < 6 := by omega
      obtain ⟨hw1, hw2⟩ := hW j (by omega)
      have f3 : ∀ {Q}, gEv (gT X) 138 0 [.ref o, .int (nI j), .int 3] [] n k (mW w o nw rd ps de im ik tx le pz tk ta va fa se it al (nI L) fz fb be fo fm io) Q ↔ Q (some (.int (nw (5 * j + 4)))) n k (mW w o nw rd ps de im ik tx le pz tk ta va fa se it al (nI L) fz fb be fo fm io) := c6_ofKind hj6 (f := 3) (by decide)
      rw [eX6_doubtful_4]
      simp only [eX6_doubtful_0, eX6_doubtful_1, eX6_doubtful_1b, eX6_doubtful_1c, eX6_doubtful_1d, eX6_doubtful_2, eX6_doubtful_3, eX6_doubtful_3b, eX6_doubtful_3c, eX6_doubtful_3d, eX6_doubtful_5, eX6_doubtful_6, eX6_doubtful_9, eX6_doubtful_10, eX6_doubtful_11, eX6_doubtful_14, eX6_doubtful_15, eX6_doubtful_16, eX6_doubtful_17, eX6_doubtful_18, eX6_doubtful_19, eX6_doubtful_20, eX6_doubtful_23, eX6_doubtful_26, eX6_doubtful_29, eX6_doubtful_30, eX6_doubtful_33, eX6_doubtful_34, eX6_doubtful_35, eX6_doubtful_36, eX6_doubtful_39, eX6_doubtful_40, eX6_doubtful_41, eX6_doubtful_41b, eX6_doubtful_41c, eX6_doubtful_41d, eX6_doubtful_42, eX6_doubtful_42b, eX6_doubtful_42c, eX6_doubtful_42d, eX6_doubtful_45, eX6_doubtful_48, eX6_doubtful_49, Option.toList_some, Option.toList_none, List.cons_append, List.nil_append, gcat_nil, gcat_cons, cat_int, cat_ref, cat_null, cat_ret, cat_long, grc_ref, narZ0, narZ1, true_and, and_true, decide_true, Nat.reduceAdd, Nat.reduceLeDiff, if_true, if_false, eq_self, gfld_in, gobj_in, garr_in, garq_in, glen_in, gisO_in, ex_some, List.getElem?_cons_succ, List.getElem?_cons_zero, List.length_cons, List.length_nil, List.set_cons_succ, List.set_cons_zero, Nat.reduceLT, va_up_eq, va_up_nl, mW_0, mW_1, v0, y0, h0, hc1, f3, hw1, c6_binsOf hL hal hj6 hw2, c6_ones, nI_1, ih (j + 1) _ (by omega)]
      rw [gfor]
      by_cases q : mon (mbs (fun x => mbc nw fz fb ap L j (nI x)) (We j)) ≤ 1
      · rw [if_pos q, if_pos q]
      · rw [if_neg q, if_neg q]
  simp only [eX6_doubtful_0, eX6_doubtful_1, eX6_doubtful_1b, eX6_doubtful_1c, eX6_doubtful_1d, eX6_doubtful_2, eX6_doubtful_3, eX6_doubtful_3b, eX6_doubtful_3c, eX6_doubtful_3d, eX6_doubtful_5, eX6_doubtful_6, eX6_doubtful_9, eX6_doubtful_10, eX6_doubtful_11, eX6_doubtful_14, eX6_doubtful_15, eX6_doubtful_16, eX6_doubtful_17, eX6_doubtful_18, eX6_doubtful_19, eX6_doubtful_20, eX6_doubtful_23, eX6_doubtful_26, eX6_doubtful_29, eX6_doubtful_30, eX6_doubtful_33, eX6_doubtful_34, eX6_doubtful_35, eX6_doubtful_36, eX6_doubtful_39, eX6_doubtful_40, eX6_doubtful_41, eX6_doubtful_41b, eX6_doubtful_41c, eX6_doubtful_41d, eX6_doubtful_42, eX6_doubtful_42b, eX6_doubtful_42c, eX6_doubtful_42d, eX6_doubtful_45, eX6_doubtful_48, eX6_doubtful_49, Option.toList_some, Option.toList_none, List.cons_append, List.nil_append, gcat_nil, gcat_cons, cat_int, cat_ref, cat_null, cat_ret, cat_long, grc_ref, narZ0, narZ1, true_and, and_true, decide_true, Nat.reduceAdd, Nat.reduceLeDiff, if_true, if_false, eq_self, gfld_in, gobj_in, garr_in, garq_in, glen_in, gisO_in, ex_some, List.getElem?_cons_succ, List.getElem?_cons_zero, List.length_cons, List.length_nil, List.set_cons_succ, List.set_cons_zero, Nat.reduceLT, va_up_eq, va_up_nl]
  exact loop K 0 0 (by omega)
theorem c6_bearsOf (hL : L ≤ 6) (hK : K ≤ 6) (h0 : nw 0 = nI K) (hal : ∀ p, p < L → al p = nI (ap p) ∧ ap p < 6) (hW : ∀ c, c < K → nw (5 * c + 4) = nI (We c) ∧ We c < 1000) {c : Nat} (hc : c < 6) {wt : Nat} (hw : nw (5 * c + 2) = nI wt) (hw9 : wt < 1000) : gEv (gT X) 160 0 [.ref o, .int (nI c), .null, .null] [] n k (mW w o nw rd ps de im ik tx le pz tk ta va fa se it al (nI L) fz fb be fo fm io) Q ↔ Q (some (.int (gfor (fun x m => if maa (fun c' => mbs (fun x => mbc nw fz fb ap L c' (nI x)) (if nI c' = nI c then x else We c')) 0 K 0 1 = 0 then m else nI x) 0 wt (-9)))) n k (mW w o nw rd ps de im ik tx le pz tk ta va fa se it al (nI L) fz fb be fo fm io) := by
  have f1 : ∀ {Q}, gEv (gT X) 138 0 [.ref o, .int (nI c), .int 1] [] n k (mW w o nw rd ps de im ik tx le pz tk ta va fa se it al (nI L) fz fb be fo fm io) Q ↔ Q (some (.int (nw (5 * c + 2)))) n k (mW w o nw rd ps de im ik tx le pz tk ta va fa se it al (nI L) fz fb be fo fm io) := c6_ofKind hc (f := 1) (by decide)
  have loop : ∀ (D j : Nat) (m : Int32), j + D = wt → (gEv (gT X) 160 5 [.ref o, .int (nI c), .int m, .int (nI j)] [] n k (mW w o nw rd ps de im ik tx le pz tk ta va fa se it al (nI L) fz fb be fo fm io) Q ↔ Q (some (.int (gfor (fun x m => if maa (fun c' => mbs (fun x => mbc nw fz fb ap L c' (nI x)) (if nI c' = nI c then x else We c')) 0 K 0 1 = 0 then m else nI x) j D m))) n k (mW w o nw rd ps de im ik tx le pz tk ta va fa se it al (nI L) fz fb be fo fm io)) := by
    intro D
    induction D with
    | zero =>
      intro j m hj
      have hc1 : nI wt ≤ nI j := nI_le (by omega) (by omega)
      rw [eX6_bearsOf_5]
      simp only [eX6_bearsOf_0, eX6_bearsOf_2, eX6_bearsOf_2b, eX6_bearsOf_2c, eX6_bearsOf_2d, eX6_bearsOf_3, eX6_bearsOf_4, eX6_bearsOf_4b, eX6_bearsOf_4c, eX6_bearsOf_4d, eX6_bearsOf_6, eX6_bearsOf_7, eX6_bearsOf_8, eX6_bearsOf_9, eX6_bearsOf_12, eX6_bearsOf_15, eX6_bearsOf_16, eX6_bearsOf_17, eX6_bearsOf_18, eX6_bearsOf_21, eX6_bearsOf_24, eX6_bearsOf_25, eX6_bearsOf_28, eX6_bearsOf_29, eX6_bearsOf_29b, eX6_bearsOf_29c, eX6_bearsOf_29d, eX6_bearsOf_30, eX6_bearsOf_30b, eX6_bearsOf_30c, eX6_bearsOf_30d, eX6_bearsOf_33, eX6_bearsOf_36, eX6_bearsOf_37, Option.toList_some, Option.toList_none, List.cons_append, List.nil_append, gcat_nil, gcat_cons, cat_int, cat_ref, cat_null, cat_ret, cat_long, grc_ref, narZ0, narZ1, true_and, and_true, decide_true, Nat.reduceAdd, Nat.reduceLeDiff, if_true, if_false, eq_self, gfld_in, gobj_in, garr_in, garq_in, glen_in, gisO_in, ex_some, List.getElem?_cons_succ, List.getElem?_cons_zero, List.length_cons, List.length_nil, List.set_cons_succ, List.set_cons_zero, Nat.reduceLT, va_up_eq, va_up_nl, mW_0, f1, hw, hc1]
      rfl
    | succ D ih =>
      intro j m hj
      have hc1 : ¬ nI wt ≤ nI j := nI_ge (by omega) (by omega)
      rw [eX6_bearsOf_5]
      simp only [eX6_bearsOf_0, eX6_bearsOf_2, eX6_bearsOf_2b, eX6_bearsOf_2c, eX6_bearsOf_2d, eX6_bearsOf_3, eX6_bearsOf_4, eX6_bearsOf_4b, eX6_bearsOf_4c, eX6_bearsOf_4d, eX6_bearsOf_6, eX6_bearsOf_7, eX6_bearsOf_8, eX6_bearsOf_9, eX6_bearsOf_12, eX6_bearsOf_15, eX6_bearsOf_16, eX6_bearsOf_17, eX6_bearsOf_18, eX6_bearsOf_21, eX6_bearsOf_24, eX6_bearsOf_25, eX6_bearsOf_28, eX6_bearsOf_29, eX6_bearsOf_29b, eX6_bearsOf_29c, eX6_bearsOf_29d, eX6_bearsOf_30, eX6_bearsOf_30b, eX6_bearsOf_30c, eX6_bearsOf_30d, eX6_bearsOf_33, eX6_bearsOf_36, eX6_bearsOf_37, Option.toList_some, Option.toList_none, List.cons_append, List.nil_append, gcat_nil, gcat_cons, cat_int, cat_ref, cat_null, cat_ret, cat_long, grc_ref, narZ0, narZ1, true_and, and_true, decide_true, Nat.reduceAdd, Nat.reduceLeDiff, if_true, if_false, eq_self, gfld_in, gobj_in, garr_in, garq_in, glen_in, gisO_in, ex_some, List.getElem?_cons_succ, List.getElem?_cons_zero, List.length_cons, List.length_nil, List.set_cons_succ, List.set_cons_zero, Nat.reduceLT, va_up_eq, va_up_nl, mW_0, f1, hw, hc1, c6_areApart hL hK h0 hal hW (show j < 1000 by omega), nI_1, ih (j + 1) _ (by omega)]
      rw [gfor]
      by_cases q : maa (fun c' => mbs (fun x => mbc nw fz fb ap L c' (nI x)) (if nI c' = nI c then j else We c')) 0 K 0 1 = 0
      · rw [if_pos q, if_pos q]
      · rw [if_neg q, if_neg q]
  simp only [eX6_bearsOf_0, eX6_bearsOf_2, eX6_bearsOf_2b, eX6_bearsOf_2c, eX6_bearsOf_2d, eX6_bearsOf_3, eX6_bearsOf_4, eX6_bearsOf_4b, eX6_bearsOf_4c, eX6_bearsOf_4d, eX6_bearsOf_6, eX6_bearsOf_7, eX6_bearsOf_8, eX6_bearsOf_9, eX6_bearsOf_12, eX6_bearsOf_15, eX6_bearsOf_16, eX6_bearsOf_17, eX6_bearsOf_18, eX6_bearsOf_21, eX6_bearsOf_24, eX6_bearsOf_25, eX6_bearsOf_28, eX6_bearsOf_29, eX6_bearsOf_29b, eX6_bearsOf_29c, eX6_bearsOf_29d, eX6_bearsOf_30, eX6_bearsOf_30b, eX6_bearsOf_30c, eX6_bearsOf_30d, eX6_bearsOf_33, eX6_bearsOf_36, eX6_bearsOf_37, Option.toList_some, Option.toList_none, List.cons_append, List.nil_append, gcat_nil, gcat_cons, cat_int, cat_ref, cat_null, cat_ret, cat_long, grc_ref, narZ0, narZ1, true_and, and_true, decide_true, Nat.reduceAdd, Nat.reduceLeDiff, if_true, if_false, eq_self, gfld_in, gobj_in, garr_in, garq_in, glen_in, gisO_in, ex_some, List.getElem?_cons_succ, List.getElem?_cons_zero, List.length_cons, List.length_nil, List.set_cons_succ, List.set_cons_zero, Nat.reduceLT, va_up_eq, va_up_nl]
  exact loop wt 0 (-9) (by omega)
end MQ
