/-! TRACK: what is asked of it -/
def isTr (w : gH) (t : Nat) (kr ts co : Nat → Int32) (kc tc rm jm : Int32) : Prop :=
  w t = .inr (3, [.ref (t + 1), .ref (t + 2), .ref (t + 3), .int kc, .int tc, .int rm, .int jm]) ∧ w (t + 1) = .inl (.int, 30, .inl kr) ∧ w (t + 2) = .inl (.int, 18, .inl ts) ∧ w (t + 3) = .inl (.int, 7, .inl co)
/-- an entry of a row, 0 beyond it -/
def gof (f : Nat → Int32) (N : Nat) (i : Int32) : Int32 := if i < 0 then 0 else if Int32.ofNat N ≤ i then 0 else f i.toNatClampNeg
theorem vp_in_g {x : Int32} {N : Nat} (h1 : ¬ x < 0) (h2 : ¬ Int32.ofNat N ≤ x) (hN : N < 2 ^ 31) : vp_in x N := by
  rcases pk_ix x (n := N) hN with h | h | ⟨j, hj, rfl⟩
  · exact absurd h h1
  · exact absurd h h2
  · exact vp_in_nI hj hN
theorem gof_at {f : Nat → Int32} {N i : Nat} (h : i < N) (hN : N < 2 ^ 31) : gof f N (nI i) = f i := by
  unfold gof
  rw [if_neg (nI_pos (by omega)), if_neg (show ¬ Int32.ofNat N ≤ nI i from nI_ge h hN), nI_clamp (by omega)]
/-- a test lets a coin fall: sort, bound, shift of the bound, the coin's three numbers -/
def gfall (so bo sh d w e : Int32) : Bool := if so = 0 then decide (d ≤ bo + sh) else if so = 1 then decide (w ≤ bo + sh) else decide (e = bo + sh)
/-- by how much a suspect says that a test is off -/
def gsh (s : Int32) (t : Nat) : Int32 := if s < 0 then 0 else if s / 2 = nI t then (if s &&& 1 = 0 then -1 else 1) else 0
def gbn (ts : Nat → Int32) (s : Int32) (N : Nat) (d w e : Int32) : Nat := gfst (fun i => gfall (ts (3 * i)) (ts (3 * i + 1)) (gsh s i) d w e = true) 0 N
section TR
variable {X : gX} {n k : Nat} {w : gH} {Q : Option Value → Nat → Nat → gH → Prop} {t : Nat} {kr ts co : Nat → Int32} {kc tc rm jm : Int32}
theorem c_hasKind (hT : isTr w t kr ts co kc tc rm jm) {a : Int32} : gEv (gT X) 45 0 [.ref t, .int a] [] n k w Q ↔ Q (some (.int (gb (0 ≤ a ∧ a < kc)))) n k w := by
  obtain ⟨h0, h1, h2, h3⟩ := hT
  simp only [eX3_hasKind_0, eX3_hasKind_1, eX3_hasKind_4, eX3_hasKind_5, eX3_hasKind_6, eX3_hasKind_9, eX3_hasKind_12, eX3_hasKind_13, eX3_hasKind_16, eX3_hasKind_17, Option.toList_some, Option.toList_none, List.cons_append, List.nil_append, gcat_nil, gcat_cons, cat_int, cat_ref, cat_null, cat_ret, cat_long, grc_ref, narZ0, narZ1, true_and, and_true, decide_true, Nat.reduceAdd, Nat.reduceLeDiff, if_true, if_false, eq_self, gfld_in, gobj_in, garr_in, garq_in, glen_in, gisO_in, ex_some, List.getElem?_cons_succ, List.getElem?_cons_zero, List.length_cons, List.length_nil, List.set_cons_succ, List.set_cons_zero, Nat.reduceLT, va_up_eq, va_up_nl, h0]
  by_cases q1 : a < 0
  · rw [if_pos q1, gb_f (fun z => absurd z.1 (Int32.not_le.mpr q1))]
  · rw [if_neg q1]
    by_cases q2 : kc ≤ a
    · rw [if_pos q2, gb_f (fun z => absurd z.2 (Int32.not_lt.mpr q2))]
    · rw [if_neg q2, gb_t ⟨Int32.not_lt.mp q1, Int32.not_le.mp q2⟩]
theorem c_hasTest (hT : isTr w t kr ts co kc tc rm jm) {a : Int32} : gEv (gT X) 47 0 [.ref t, .int a] [] n k w Q ↔ Q (some (.int (gb (0 ≤ a ∧ a < tc)))) n k w := by
  obtain ⟨h0, h1, h2, h3⟩ := hT
  simp only [eX3_hasTest_0, eX3_hasTest_1, eX3_hasTest_4, eX3_hasTest_5, eX3_hasTest_6, eX3_hasTest_9, eX3_hasTest_12, eX3_hasTest_13, eX3_hasTest_16, eX3_hasTest_17, Option.toList_some, Option.toList_none, List.cons_append, List.nil_append, gcat_nil, gcat_cons, cat_int, cat_ref, cat_null, cat_ret, cat_long, grc_ref, narZ0, narZ1, true_and, and_true, decide_true, Nat.reduceAdd, Nat.reduceLeDiff, if_true, if_false, eq_self, gfld_in, gobj_in, garr_in, garq_in, glen_in, gisO_in, ex_some, List.getElem?_cons_succ, List.getElem?_cons_zero, List.length_cons, List.length_nil, List.set_cons_succ, List.set_cons_zero, Nat.reduceLT, va_up_eq, va_up_nl, h0]
  by_cases q1 : a < 0
  · rw [if_pos q1, gb_f (fun z => absurd z.1 (Int32.not_le.mpr q1))]
  · rw [if_neg q1]
    by_cases q2 : tc ≤ a
    · rw [if_pos q2, gb_f (fun z => absurd z.2 (Int32.not_lt.mpr q2))]
    · rw [if_neg q2, gb_t ⟨Int32.not_lt.mp q1, Int32.not_le.mp q2⟩]
theorem c_hasBin (hT : isTr w t kr ts co kc tc rm jm) {a : Int32} : gEv (gT X) 48 0 [.ref t, .int a] [] n k w Q ↔ Q (some (.int (gb (0 ≤ a ∧ a ≤ tc)))) n k w := by
  obtain ⟨h0, h1, h2, h3⟩ := hT
  simp only [eX3_hasBin_0, eX3_hasBin_1, eX3_hasBin_4, eX3_hasBin_5, eX3_hasBin_6, eX3_hasBin_9, eX3_hasBin_12, eX3_hasBin_13, eX3_hasBin_16, eX3_hasBin_17, Option.toList_some, Option.toList_none, List.cons_append, List.nil_append, gcat_nil, gcat_cons, cat_int, cat_ref, cat_null, cat_ret, cat_long, grc_ref, narZ0, narZ1, true_and, and_true, decide_true, Nat.reduceAdd, Nat.reduceLeDiff, if_true, if_false, eq_self, gfld_in, gobj_in, garr_in, garq_in, glen_in, gisO_in, ex_some, List.getElem?_cons_succ, List.getElem?_cons_zero, List.length_cons, List.length_nil, List.set_cons_succ, List.set_cons_zero, Nat.reduceLT, va_up_eq, va_up_nl, h0]
  by_cases q1 : a < 0
  · rw [if_pos q1, gb_f (fun z => absurd z.1 (Int32.not_le.mpr q1))]
  · rw [if_neg q1]
    by_cases q2 : tc < a
    · rw [if_pos q2, gb_f (fun z => absurd z.2 (Int32.not_le.mpr q2))]
    · rw [if_neg q2, gb_t ⟨Int32.not_lt.mp q1, Int32.not_lt.mp q2⟩]
theorem c_ofKind (hT : isTr w t kr ts co kc tc rm jm) {a b : Int32} : gEv (gT X) 49 0 [.ref t, .int a, .int b, .null] [] n k w Q ↔ Q (some (.int (gof kr 30 (a * 5 + b)))) n k w := by
  obtain ⟨h0, h1, h2, h3⟩ := hT
  simp only [eX3_ofKind_0, eX3_ofKind_1, eX3_ofKind_2, eX3_ofKind_3, eX3_ofKind_4, eX3_ofKind_5, eX3_ofKind_5b, eX3_ofKind_5c, eX3_ofKind_5d, eX3_ofKind_6, eX3_ofKind_7, eX3_ofKind_10, eX3_ofKind_11, eX3_ofKind_12, eX3_ofKind_15, eX3_ofKind_16, eX3_ofKind_19, eX3_ofKind_20, eX3_ofKind_23, eX3_ofKind_24, eX3_ofKind_25, eX3_ofKind_28, eX3_ofKind_29, Option.toList_some, Option.toList_none, List.cons_append, List.nil_append, gcat_nil, gcat_cons, cat_int, cat_ref, cat_null, cat_ret, cat_long, grc_ref, narZ0, narZ1, true_and, and_true, decide_true, Nat.reduceAdd, Nat.reduceLeDiff, if_true, if_false, eq_self, gfld_in, gobj_in, garr_in, garq_in, glen_in, gisO_in, ex_some, List.getElem?_cons_succ, List.getElem?_cons_zero, List.length_cons, List.length_nil, List.set_cons_succ, List.set_cons_zero, Nat.reduceLT, va_up_eq, va_up_nl, h0, h1]
  unfold gof
  by_cases q1 : a * 5 + b < 0
  · rw [if_pos q1, if_pos q1]
  · rw [if_neg q1, if_neg q1]
    by_cases q2 : Int32.ofNat 30 ≤ a * 5 + b
    · rw [if_pos q2, if_pos q2]
    · rw [if_neg q2, if_neg q2]
      exact ⟨fun z => z.2, fun z => ⟨vp_in_g q1 q2 (by decide), z⟩⟩
theorem c_ofTest (hT : isTr w t kr ts co kc tc rm jm) {a b : Int32} : gEv (gT X) 51 0 [.ref t, .int a, .int b, .null] [] n k w Q ↔ Q (some (.int (gof ts 18 (a * 3 + b)))) n k w := by
  obtain ⟨h0, h1, h2, h3⟩ := hT
  simp only [eX3_ofTest_0, eX3_ofTest_1, eX3_ofTest_2, eX3_ofTest_3, eX3_ofTest_4, eX3_ofTest_5, eX3_ofTest_5b, eX3_ofTest_5c, eX3_ofTest_5d, eX3_ofTest_6, eX3_ofTest_7, eX3_ofTest_10, eX3_ofTest_11, eX3_ofTest_12, eX3_ofTest_15, eX3_ofTest_16, eX3_ofTest_19, eX3_ofTest_20, eX3_ofTest_23, eX3_ofTest_24, eX3_ofTest_25, eX3_ofTest_28, eX3_ofTest_29, Option.toList_some, Option.toList_none, List.cons_append, List.nil_append, gcat_nil, gcat_cons, cat_int, cat_ref, cat_null, cat_ret, cat_long, grc_ref, narZ0, narZ1, true_and, and_true, decide_true, Nat.reduceAdd, Nat.reduceLeDiff, if_true, if_false, eq_self, gfld_in, gobj_in, garr_in, garq_in, glen_in, gisO_in, ex_some, List.getElem?_cons_succ, List.getElem?_cons_zero, List.length_cons, List.length_nil, List.set_cons_succ, List.set_cons_zero, Nat.reduceLT, va_up_eq, va_up_nl, h0, h2]
  unfold gof
  by_cases q1 : a * 3 + b < 0
  · rw [if_pos q1, if_pos q1]
  · rw [if_neg q1, if_neg q1]
    by_cases q2 : Int32.ofNat 18 ≤ a * 3 + b
    · rw [if_pos q2, if_pos q2]
    · rw [if_neg q2, if_neg q2]
      exact ⟨fun z => z.2, fun z => ⟨vp_in_g q1 q2 (by decide), z⟩⟩
theorem c_coinsIn (hT : isTr w t kr ts co kc tc rm jm) {a : Int32} : gEv (gT X) 57 0 [.ref t, .int a] [] n k w Q ↔ Q (some (.int (gof co 7 a))) n k w := by
  obtain ⟨h0, h1, h2, h3⟩ := hT
  simp only [eX3_coinsIn_0, eX3_coinsIn_1, eX3_coinsIn_4, eX3_coinsIn_5, eX3_coinsIn_6, eX3_coinsIn_9, eX3_coinsIn_10, eX3_coinsIn_13, eX3_coinsIn_14, eX3_coinsIn_17, eX3_coinsIn_18, eX3_coinsIn_19, eX3_coinsIn_22, eX3_coinsIn_23, Option.toList_some, Option.toList_none, List.cons_append, List.nil_append, gcat_nil, gcat_cons, cat_int, cat_ref, cat_null, cat_ret, cat_long, grc_ref, narZ0, narZ1, true_and, and_true, decide_true, Nat.reduceAdd, Nat.reduceLeDiff, if_true, if_false, eq_self, gfld_in, gobj_in, garr_in, garq_in, glen_in, gisO_in, ex_some, List.getElem?_cons_succ, List.getElem?_cons_zero, List.length_cons, List.length_nil, List.set_cons_succ, List.set_cons_zero, Nat.reduceLT, va_up_eq, va_up_nl, h0, h3]
  unfold gof
  by_cases q1 : a < 0
  · rw [if_pos q1, if_pos q1]
  · rw [if_neg q1, if_neg q1]
    by_cases q2 : Int32.ofNat 7 ≤ a
    · rw [if_pos q2, if_pos q2]
    · rw [if_neg q2, if_neg q2]
      exact ⟨fun z => z.2, fun z => ⟨vp_in_g q1 q2 (by decide), z⟩⟩
theorem c_hasCoin (hT : isTr w t kr ts co kc tc rm jm) {a x : Int32} : gEv (gT X) 46 0 [.ref t, .int a, .int x] [] n k w Q ↔ Q (some (.int (gb ((0 ≤ a ∧ a < kc) ∧ 0 ≤ x ∧ x ≤ gof kr 30 (a * 5 + 3))))) n k w := by
  have h0 := hT.1
  simp only [eX3_hasCoin_0, eX3_hasCoin_1, eX3_hasCoin_2, eX3_hasCoin_5, eX3_hasCoin_8, eX3_hasCoin_9, eX3_hasCoin_10, eX3_hasCoin_11, eX3_hasCoin_12, eX3_hasCoin_13, eX3_hasCoin_16, eX3_hasCoin_19, eX3_hasCoin_22, eX3_hasCoin_23, eX3_hasCoin_26, eX3_hasCoin_27, Option.toList_some, Option.toList_none, List.cons_append, List.nil_append, gcat_nil, gcat_cons, cat_int, cat_ref, cat_null, cat_ret, cat_long, grc_ref, narZ0, narZ1, true_and, and_true, decide_true, Nat.reduceAdd, Nat.reduceLeDiff, if_true, if_false, eq_self, gfld_in, gobj_in, garr_in, garq_in, glen_in, gisO_in, ex_some, List.getElem?_cons_succ, List.getElem?_cons_zero, List.length_cons, List.length_nil, List.set_cons_succ, List.set_cons_zero, Nat.reduceLT, va_up_eq, va_up_nl, h0, c_hasKind hT, c_ofKind hT, c_within, gb_0]
  by_cases q1 : 0 ≤ a ∧ a < kc
  · rw [if_neg (fun z => z q1)]
    by_cases q2 : 0 ≤ x ∧ x ≤ gof kr 30 (a * 5 + 3)
    · rw [if_neg (fun z => z q2), gb_t ⟨q1, q2⟩]
    · rw [if_pos q2, gb_f (fun z => q2 z.2)]
  · rw [if_pos q1, gb_f (fun z => q1 z.1)]
theorem c_shiftOf {j : Nat} {s : Int32} : gEv (gT X) 64 0 [.int (nI j), .int s] [] n k w Q ↔ Q (some (.int (gsh s j))) n k w := by
  simp only [eX3_shiftOf_0, eX3_shiftOf_1, eX3_shiftOf_4, eX3_shiftOf_5, eX3_shiftOf_6, eX3_shiftOf_7, eX3_shiftOf_8, eX3_shiftOf_11, eX3_shiftOf_12, eX3_shiftOf_13, eX3_shiftOf_14, eX3_shiftOf_15, eX3_shiftOf_16, eX3_shiftOf_19, eX3_shiftOf_20, eX3_shiftOf_23, eX3_shiftOf_24, Option.toList_some, Option.toList_none, List.cons_append, List.nil_append, gcat_nil, gcat_cons, cat_int, cat_ref, cat_null, cat_ret, cat_long, grc_ref, narZ0, narZ1, true_and, and_true, decide_true, Nat.reduceAdd, Nat.reduceLeDiff, if_true, if_false, eq_self, gfld_in, gobj_in, garr_in, garq_in, glen_in, gisO_in, ex_some, List.getElem?_cons_succ, List.getElem?_cons_zero, List.length_cons, List.length_nil, List.set_cons_succ, List.set_cons_zero, Nat.reduceLT, va_up_eq, va_up_nl]
  unfold gsh
  by_cases q1 : s < 0
  · rw [if_pos q1, if_pos q1]
  · rw [if_neg q1, if_neg q1]
    have q0 : ¬ (2 : Int32) = 0 := by decide
    simp only [q0, not_false_eq_true, true_and]
    by_cases q2 : s / 2 = nI j
    · rw [if_pos q2, if_pos q2]
      by_cases q3 : s &&& 1 = 0 <;> simp [q3]
    · rw [if_neg q2, if_neg q2]
theorem c_coinsInAll (hT : isTr w t kr ts co kc tc rm jm) : gEv (gT X) 58 0 [.ref t, .null, .null] [] n k w Q ↔ Q (some (.int (gfor (fun i a => a + co i) 0 7 0))) n k w := by
  obtain ⟨h0, h1, h2, h3⟩ := hT
  have loop : ∀ (d j : Nat) (a : Int32), j + d = 7 → (gEv (gT X) 58 4 [.ref t, .int a, .int (nI j)] [] n k w Q ↔ Q (some (.int (gfor (fun i a => a + co i) j d a))) n k w) := by
    intro d
    induction d with
    | zero =>
      intro j a hj
      have hc : Int32.ofNat 7 ≤ nI j := nI_le (a := 7) (by omega) (by omega)
      rw [eX3_coinsInAll_4]
      simp only [eX3_coinsInAll_0, eX3_coinsInAll_1, eX3_coinsInAll_1b, eX3_coinsInAll_1c, eX3_coinsInAll_1d, eX3_coinsInAll_2, eX3_coinsInAll_3, eX3_coinsInAll_3b, eX3_coinsInAll_3c, eX3_coinsInAll_3d, eX3_coinsInAll_5, eX3_coinsInAll_6, eX3_coinsInAll_9, eX3_coinsInAll_10, eX3_coinsInAll_13, eX3_coinsInAll_14, eX3_coinsInAll_15, eX3_coinsInAll_18, eX3_coinsInAll_19, eX3_coinsInAll_20, eX3_coinsInAll_21, eX3_coinsInAll_21b, eX3_coinsInAll_21c, eX3_coinsInAll_21d, eX3_coinsInAll_22, eX3_coinsInAll_22b, eX3_coinsInAll_22c, eX3_coinsInAll_22d, eX3_coinsInAll_25, eX3_coinsInAll_28, eX3_coinsInAll_29, Option.toList_some, Option.toList_none, List.cons_append, List.nil_append, gcat_nil, gcat_cons, cat_int, cat_ref, cat_null, cat_ret, cat_long, grc_ref, narZ0, narZ1, true_and, and_true, decide_true, Nat.reduceAdd, Nat.reduceLeDiff, if_true, if_false, eq_self, gfld_in, gobj_in, garr_in, garq_in, glen_in, gisO_in, ex_some, List.getElem?_cons_succ, List.getElem?_cons_zero, List.length_cons, List.length_nil, List.set_cons_succ, List.set_cons_zero, Nat.reduceLT, va_up_eq, va_up_nl, h0, h3, hc]
      rfl
    | succ d ih =>
      intro j a hj
      have hc : ¬ Int32.ofNat 7 ≤ nI j := nI_ge (b := 7) (by omega) (by omega)
      have hv : vp_in (nI j) 7 := vp_in_nI (by omega) (by omega)
      rw [eX3_coinsInAll_4]
      simp only [eX3_coinsInAll_0, eX3_coinsInAll_1, eX3_coinsInAll_1b, eX3_coinsInAll_1c, eX3_coinsInAll_1d, eX3_coinsInAll_2, eX3_coinsInAll_3, eX3_coinsInAll_3b, eX3_coinsInAll_3c, eX3_coinsInAll_3d, eX3_coinsInAll_5, eX3_coinsInAll_6, eX3_coinsInAll_9, eX3_coinsInAll_10, eX3_coinsInAll_13, eX3_coinsInAll_14, eX3_coinsInAll_15, eX3_coinsInAll_18, eX3_coinsInAll_19, eX3_coinsInAll_20, eX3_coinsInAll_21, eX3_coinsInAll_21b, eX3_coinsInAll_21c, eX3_coinsInAll_21d, eX3_coinsInAll_22, eX3_coinsInAll_22b, eX3_coinsInAll_22c, eX3_coinsInAll_22d, eX3_coinsInAll_25, eX3_coinsInAll_28, eX3_coinsInAll_29, Option.toList_some, Option.toList_none, List.cons_append, List.nil_append, gcat_nil, gcat_cons, cat_int, cat_ref, cat_null, cat_ret, cat_long, grc_ref, narZ0, narZ1, true_and, and_true, decide_true, Nat.reduceAdd, Nat.reduceLeDiff, if_true, if_false, eq_self, gfld_in, gobj_in, garr_in, garq_in, glen_in, gisO_in, ex_some, List.getElem?_cons_succ, List.getElem?_cons_zero, List.length_cons, List.length_nil, List.set_cons_succ, List.set_cons_zero, Nat.reduceLT, va_up_eq, va_up_nl, h0, h3, hc, hv, nI_1, nI_clamp (show j < 2 ^ 31 by omega), ih (j + 1) _ (by omega)]
      rfl
  simp only [eX3_coinsInAll_0, eX3_coinsInAll_1, eX3_coinsInAll_1b, eX3_coinsInAll_1c, eX3_coinsInAll_1d, eX3_coinsInAll_2, eX3_coinsInAll_3, eX3_coinsInAll_3b, eX3_coinsInAll_3c, eX3_coinsInAll_3d, eX3_coinsInAll_5, eX3_coinsInAll_6, eX3_coinsInAll_9, eX3_coinsInAll_10, eX3_coinsInAll_13, eX3_coinsInAll_14, eX3_coinsInAll_15, eX3_coinsInAll_18, eX3_coinsInAll_19, eX3_coinsInAll_20, eX3_coinsInAll_21, eX3_coinsInAll_21b, eX3_coinsInAll_21c, eX3_coinsInAll_21d, eX3_coinsInAll_22, eX3_coinsInAll_22b, eX3_coinsInAll_22c, eX3_coinsInAll_22d, eX3_coinsInAll_25, eX3_coinsInAll_28, eX3_coinsInAll_29, Option.toList_some, Option.toList_none, List.cons_append, List.nil_append, gcat_nil, gcat_cons, cat_int, cat_ref, cat_null, cat_ret, cat_long, grc_ref, narZ0, narZ1, true_and, and_true, decide_true, Nat.reduceAdd, Nat.reduceLeDiff, if_true, if_false, eq_self, gfld_in, gobj_in, garr_in, garq_in, glen_in, gisO_in, ex_some, List.getElem?_cons_succ, List.getElem?_cons_zero, List.length_cons, List.length_nil, List.set_cons_succ, List.set_cons_zero, Nat.reduceLT, va_up_eq, va_up_nl]
  exact loop 7 0 0 rfl
end TR
