/-! THE MODEL: its questions -/
theorem gtab_out {pc : Nat} {df : Int} {offs : List Int} {x : Int32} {hi : Nat} (hh : offs.length = hi + 1) (hb : hi < 2 ^ 31) (h : ¬ (0 ≤ x ∧ x ≤ nI hi)) : gtab pc df 0 offs x = ((pc : Int) + df).toNat := by
  unfold gtab
  have : x.toInt < 0 ∨ (0 : Int) + offs.length ≤ x.toInt := by
    rw [hh]
    by_cases h1 : 0 ≤ x
    · have h2 : ¬ x ≤ nI hi := fun z => h ⟨h1, z⟩
      right
      have h3 : ¬ x.toInt ≤ (nI hi).toInt := fun z => h2 (Int32.le_iff_toInt_le.mpr z)
      rw [nI_toInt hb] at h3
      omega
    · left
      have h3 : ¬ (0 : Int32).toInt ≤ x.toInt := fun z => h1 (Int32.le_iff_toInt_le.mpr z)
      have h4 : (0 : Int32).toInt = 0 := by decide
      omega
  rw [if_pos this]
section MC
variable {X : gX} {n k : Nat} {w : gH} {Q : Option Value → Nat → Nat → gH → Prop} {o : Nat} {nw rd ps im ik tx fa al be fo io : Nat → Int32} {de le pz tk ta va se it ln fz fb fm : Int32} {K N d : Nat} {We : Nat → Nat}
theorem c6_count_bad {x : Int32} (h : ¬ (0 ≤ x ∧ x ≤ 6)) : gEv (gT X) 184 0 [.ref o, .int x] [] n k (mW w o nw rd ps de im ik tx le pz tk ta va fa se it al ln fz fb be fo fm io) Q ↔ Q (some (.int (-1))) n k (mW w o nw rd ps de im ik tx le pz tk ta va fa se it al ln fz fb be fo fm io) := by
  have e : gtab 1 86 0 [43, 50, 58, 66, 71, 76, 81] x = 87 := gtab_out (hi := 6) rfl (by decide) h
  simp only [eX6_count_0, eX6_count_1, eX6_count_44, eX6_count_45, eX6_count_48, eX6_count_49, eX6_count_50, eX6_count_51, eX6_count_52, eX6_count_55, eX6_count_57, eX6_count_58, eX6_count_59, eX6_count_60, eX6_count_63, eX6_count_65, eX6_count_66, eX6_count_67, eX6_count_68, eX6_count_71, eX6_count_72, eX6_count_73, eX6_count_76, eX6_count_77, eX6_count_78, eX6_count_81, eX6_count_82, eX6_count_83, eX6_count_86, eX6_count_87, eX6_count_88, Option.toList_some, Option.toList_none, List.cons_append, List.nil_append, gcat_nil, gcat_cons, cat_int, cat_ref, cat_null, cat_ret, cat_long, grc_ref, narZ0, narZ1, true_and, and_true, decide_true, Nat.reduceAdd, Nat.reduceLeDiff, if_true, if_false, eq_self, gfld_in, gobj_in, garr_in, garq_in, glen_in, gisO_in, ex_some, List.getElem?_cons_succ, List.getElem?_cons_zero, List.length_cons, List.length_nil, List.set_cons_succ, List.set_cons_zero, Nat.reduceLT, va_up_eq, va_up_nl, e]
def mcount (nw : Nat → Int32) (se le de : Int32) (f : Nat) : Int32 := if f = 0 then nw 0 else if f = 1 then nw 31 else if f = 2 then nw 50 else if f = 3 then gfor (fun i a => a + nw (51 + i)) 0 7 0 else if f = 4 then se else if f = 5 then le else de
theorem c6_count {f : Nat} (hf : f ≤ 6) : gEv (gT X) 184 0 [.ref o, .int (nI f)] [] n k (mW w o nw rd ps de im ik tx le pz tk ta va fa se it al ln fz fb be fo fm io) Q ↔ Q (some (.int (mcount nw se le de f))) n k (mW w o nw rd ps de im ik tx le pz tk ta va fa se it al ln fz fb be fo fm io) := by
  have v0 : vp_in 0 59 := vp_in_nI (n := 0) (by omega) (by omega)
  have y0 : (0 : Int32).toNatClampNeg = 0 := by decide
  have v31 : vp_in 31 59 := vp_in_nI (n := 31) (by omega) (by omega)
  have y31 : (31 : Int32).toNatClampNeg = 31 := by decide
  have v50 : vp_in 50 59 := vp_in_nI (n := 50) (by omega) (by omega)
  have y50 : (50 : Int32).toNatClampNeg = 50 := by decide
  have g0 : gtab 1 86 0 [43, 50, 58, 66, 71, 76, 81] (nI 0) = 44 := by decide
  have g1 : gtab 1 86 0 [43, 50, 58, 66, 71, 76, 81] (nI 1) = 51 := by decide
  have g2 : gtab 1 86 0 [43, 50, 58, 66, 71, 76, 81] (nI 2) = 59 := by decide
  have g3 : gtab 1 86 0 [43, 50, 58, 66, 71, 76, 81] (nI 3) = 67 := by decide
  have g4 : gtab 1 86 0 [43, 50, 58, 66, 71, 76, 81] (nI 4) = 72 := by decide
  have g5 : gtab 1 86 0 [43, 50, 58, 66, 71, 76, 81] (nI 5) = 77 := by decide
  have g6 : gtab 1 86 0 [43, 50, 58, 66, 71, 76, 81] (nI 6) = 82 := by decide
  have hc : f = 0 ∨ f = 1 ∨ f = 2 ∨ f = 3 ∨ f = 4 ∨ f = 5 ∨ f = 6 := by omega
  rcases hc with rfl | rfl | rfl | rfl | rfl | rfl | rfl <;> simp only [eX6_count_0, eX6_count_1, eX6_count_44, eX6_count_45, eX6_count_48, eX6_count_49, eX6_count_50, eX6_count_51, eX6_count_52, eX6_count_55, eX6_count_57, eX6_count_58, eX6_count_59, eX6_count_60, eX6_count_63, eX6_count_65, eX6_count_66, eX6_count_67, eX6_count_68, eX6_count_71, eX6_count_72, eX6_count_73, eX6_count_76, eX6_count_77, eX6_count_78, eX6_count_81, eX6_count_82, eX6_count_83, eX6_count_86, eX6_count_87, eX6_count_88, Option.toList_some, Option.toList_none, List.cons_append, List.nil_append, gcat_nil, gcat_cons, cat_int, cat_ref, cat_null, cat_ret, cat_long, grc_ref, narZ0, narZ1, true_and, and_true, decide_true, Nat.reduceAdd, Nat.reduceLeDiff, if_true, if_false, eq_self, gfld_in, gobj_in, garr_in, garq_in, glen_in, gisO_in, ex_some, List.getElem?_cons_succ, List.getElem?_cons_zero, List.length_cons, List.length_nil, List.set_cons_succ, List.set_cons_zero, Nat.reduceLT, va_up_eq, va_up_nl, g0, g1, g2, g3, g4, g5, g6, mW_0, mW_1, v0, y0, v31, y31, v50, y50, c6_coins] <;> rfl
theorem c6_test_bad (hN : N ≤ 6) (h31 : nw 31 = nI N) {a f : Int32} (h : ¬ ((0 ≤ a ∧ a < nI N) ∧ 0 ≤ f ∧ f ≤ 2)) : gEv (gT X) 162 0 [.ref o, .int a, .int f] [] n k (mW w o nw rd ps de im ik tx le pz tk ta va fa se it al ln fz fb be fo fm io) Q ↔ Q (some (.int (-1))) n k (mW w o nw rd ps de im ik tx le pz tk ta va fa se it al ln fz fb be fo fm io) := by
  simp only [eX6_test_0, eX6_test_1, eX6_test_2, eX6_test_5, eX6_test_8, eX6_test_9, eX6_test_10, eX6_test_11, eX6_test_14, eX6_test_26, eX6_test_27, Option.toList_some, Option.toList_none, List.cons_append, List.nil_append, gcat_nil, gcat_cons, cat_int, cat_ref, cat_null, cat_ret, cat_long, grc_ref, narZ0, narZ1, true_and, and_true, decide_true, Nat.reduceAdd, Nat.reduceLeDiff, if_true, if_false, eq_self, gfld_in, gobj_in, garr_in, garq_in, glen_in, gisO_in, ex_some, List.getElem?_cons_succ, List.getElem?_cons_zero, List.length_cons, List.length_nil, List.set_cons_succ, List.set_cons_zero, Nat.reduceLT, va_up_eq, va_up_nl, mW_0, c6_isTest h31 hN, gb_0, c6_in]
  by_cases h1 : 0 ≤ a ∧ a < nI N
  · rw [if_neg (fun z => z h1)]
    by_cases h2 : 0 ≤ f ∧ f ≤ 2
    · exact absurd ⟨h1, h2⟩ h
    · rw [if_pos h2]
  · rw [if_pos h1]
theorem c6_test (hN : N ≤ 6) (h31 : nw 31 = nI N) {t f : Nat} (ht : t < N) (hf : f < 3) : gEv (gT X) 162 0 [.ref o, .int (nI t), .int (nI f)] [] n k (mW w o nw rd ps de im ik tx le pz tk ta va fa se it al ln fz fb be fo fm io) Q ↔ Q (some (.int (nw (3 * t + 32 + f)))) n k (mW w o nw rd ps de im ik tx le pz tk ta va fa se it al ln fz fb be fo fm io) := by
  have h1 : 0 ≤ nI t ∧ nI t < nI N := ⟨nI_pos' (by omega), nI_lt ht (by omega)⟩
  have h2 : 0 ≤ nI f ∧ nI f ≤ 2 := ⟨nI_pos' (by omega), nI_le (b := 2) (by omega) (by omega)⟩
  simp only [eX6_test_0, eX6_test_1, eX6_test_2, eX6_test_5, eX6_test_8, eX6_test_9, eX6_test_10, eX6_test_11, eX6_test_14, eX6_test_17, eX6_test_18, eX6_test_19, eX6_test_20, eX6_test_23, eX6_test_26, eX6_test_27, Option.toList_some, Option.toList_none, List.cons_append, List.nil_append, gcat_nil, gcat_cons, cat_int, cat_ref, cat_null, cat_ret, cat_long, grc_ref, narZ0, narZ1, true_and, and_true, decide_true, Nat.reduceAdd, Nat.reduceLeDiff, if_true, if_false, eq_self, gfld_in, gobj_in, garr_in, garq_in, glen_in, gisO_in, ex_some, List.getElem?_cons_succ, List.getElem?_cons_zero, List.length_cons, List.length_nil, List.set_cons_succ, List.set_cons_zero, Nat.reduceLT, va_up_eq, va_up_nl, mW_0, c6_isTest h31 hN, gb_0, c6_in, h1, h2, not_true_eq_false, c6_ofTest (show t < 6 by omega) hf]
theorem c6_bin_bad (h31 : nw 31 = nI N) {a f : Int32} (h : ¬ ((0 ≤ a ∧ a ≤ nI N) ∧ 0 ≤ f ∧ f ≤ 1)) : gEv (gT X) 163 0 [.ref o, .int a, .int f] [] n k (mW w o nw rd ps de im ik tx le pz tk ta va fa se it al ln fz fb be fo fm io) Q ↔ Q (some (.int (-1))) n k (mW w o nw rd ps de im ik tx le pz tk ta va fa se it al ln fz fb be fo fm io) := by
  simp only [eX6_bin_0, eX6_bin_1, eX6_bin_2, eX6_bin_5, eX6_bin_8, eX6_bin_9, eX6_bin_10, eX6_bin_11, eX6_bin_14, eX6_bin_17, eX6_bin_18, Option.toList_some, Option.toList_none, List.cons_append, List.nil_append, gcat_nil, gcat_cons, cat_int, cat_ref, cat_null, cat_ret, cat_long, grc_ref, narZ0, narZ1, true_and, and_true, decide_true, Nat.reduceAdd, Nat.reduceLeDiff, if_true, if_false, eq_self, gfld_in, gobj_in, garr_in, garq_in, glen_in, gisO_in, ex_some, List.getElem?_cons_succ, List.getElem?_cons_zero, List.length_cons, List.length_nil, List.set_cons_succ, List.set_cons_zero, Nat.reduceLT, va_up_eq, va_up_nl, mW_0, c6_isBin h31, gb_0, c6_in]
  by_cases h1 : 0 ≤ a ∧ a ≤ nI N
  · rw [if_neg (fun z => z h1)]
    by_cases h2 : 0 ≤ f ∧ f ≤ 1
    · exact absurd ⟨h1, h2⟩ h
    · rw [if_neg (fun z => z h2)]
  · rw [if_pos h1]
theorem c6_bin (hK : K ≤ 6) (h0 : nw 0 = nI K) (hW : ∀ c, c < K → nw (5 * c + 4) = nI (We c) ∧ We c < 1000) (hN : N ≤ 6) (h31 : nw 31 = nI N) {b f : Nat} (hb : b ≤ N) (hf : f ≤ 1) : gEv (gT X) 163 0 [.ref o, .int (nI b), .int (nI f)] [] n k (mW w o nw rd ps de im ik tx le pz tk ta va fa se it al ln fz fb be fo fm io) Q ↔ Q (some (.int (if f = 0 then mks (fun c => mbs (fun x => mbc nw (-9) 0 (fun p => p) N c (nI x)) (We c)) (nI b) K else nw (51 + b)))) n k (mW w o nw rd ps de im ik tx le pz tk ta va fa se it (mrng 0 N nI al) (nI N) (-9) 0 be fo fm io) := by
  have h1 : 0 ≤ nI b ∧ nI b ≤ nI N := ⟨nI_pos' (by omega), nI_le hb (by omega)⟩
  have h2 : 0 ≤ nI f ∧ nI f ≤ 1 := ⟨nI_pos' (by omega), nI_le (b := 1) (by omega) (by omega)⟩
  have e51 : 51 + nI b = nI (51 + b) := by rw [show (51 : Int32) = nI 51 from rfl, nI_add]
  have vb : vp_in (nI (51 + b)) 59 := vp_in_nI (by omega) (by omega)
  have yb : (nI (51 + b)).toNatClampNeg = 51 + b := nI_clamp (by omega)
  have hc : f = 0 ∨ f = 1 := by omega
  rcases hc with rfl | rfl
  · have z0 : nI 0 = 0 := rfl
    rw [z0] at h2
    simp only [eX6_bin_0, eX6_bin_1, eX6_bin_2, eX6_bin_5, eX6_bin_8, eX6_bin_9, eX6_bin_10, eX6_bin_11, eX6_bin_14, eX6_bin_17, eX6_bin_18, eX6_bin_19, eX6_bin_20, eX6_bin_23, eX6_bin_24, eX6_bin_27, eX6_bin_28, eX6_bin_29, eX6_bin_32, eX6_bin_35, eX6_bin_36, eX6_bin_39, eX6_bin_41, eX6_bin_42, eX6_bin_43, eX6_bin_44, Option.toList_some, Option.toList_none, List.cons_append, List.nil_append, gcat_nil, gcat_cons, cat_int, cat_ref, cat_null, cat_ret, cat_long, grc_ref, narZ0, narZ1, true_and, and_true, decide_true, Nat.reduceAdd, Nat.reduceLeDiff, if_true, if_false, eq_self, gfld_in, gobj_in, garr_in, garq_in, glen_in, gisO_in, ex_some, List.getElem?_cons_succ, List.getElem?_cons_zero, List.length_cons, List.length_nil, List.set_cons_succ, List.set_cons_zero, Nat.reduceLT, va_up_eq, va_up_nl, mW_0, mW_1, c6_isBin h31, gb_0, c6_in, h1, h2, not_true_eq_false, not_false_eq_true, c6_asTold hN h31, z0, c6_kindsOf hN hK h0 (halT hN) hW]
  · have z1 : nI 1 = 1 := rfl
    have z2 : ¬ (1 : Int32) = 0 := by decide
    have z3 : ¬ (1 : Nat) = 0 := by decide
    rw [z1] at h2
    simp only [eX6_bin_0, eX6_bin_1, eX6_bin_2, eX6_bin_5, eX6_bin_8, eX6_bin_9, eX6_bin_10, eX6_bin_11, eX6_bin_14, eX6_bin_17, eX6_bin_18, eX6_bin_19, eX6_bin_20, eX6_bin_23, eX6_bin_24, eX6_bin_27, eX6_bin_28, eX6_bin_29, eX6_bin_32, eX6_bin_35, eX6_bin_36, eX6_bin_39, eX6_bin_41, eX6_bin_42, eX6_bin_43, eX6_bin_44, Option.toList_some, Option.toList_none, List.cons_append, List.nil_append, gcat_nil, gcat_cons, cat_int, cat_ref, cat_null, cat_ret, cat_long, grc_ref, narZ0, narZ1, true_and, and_true, decide_true, Nat.reduceAdd, Nat.reduceLeDiff, if_true, if_false, eq_self, gfld_in, gobj_in, garr_in, garq_in, glen_in, gisO_in, ex_some, List.getElem?_cons_succ, List.getElem?_cons_zero, List.length_cons, List.length_nil, List.set_cons_succ, List.set_cons_zero, Nat.reduceLT, va_up_eq, va_up_nl, mW_0, mW_1, c6_isBin h31, gb_0, c6_in, h1, h2, not_true_eq_false, not_false_eq_true, c6_asTold hN h31, z1, z2, z3, e51, vb, yb]
/-- what may be asked of a coin -/
def gcn2 (a b c : Int32) : Prop := (1 ≤ a ∧ a ≤ 99) ∧ (1 ≤ b ∧ b ≤ 99) ∧ (0 ≤ c ∧ c ≤ 2)
theorem c6_coin_bad {a b c f : Int32} (h : ¬ (gcn2 a b c ∧ 0 ≤ f ∧ f ≤ 2)) : gEv (gT X) 164 0 [.ref o, .int a, .int b, .int c, .int f, .null] [] n k (mW w o nw rd ps de im ik tx le pz tk ta va fa se it al ln fz fb be fo fm io) Q ↔ Q (some (.int (-1))) n k (mW w o nw rd ps de im ik tx le pz tk ta va fa se it al ln fz fb be fo fm io) := by
  simp only [eX6_coin_0, eX6_coin_1, eX6_coin_2, eX6_coin_4, eX6_coin_7, eX6_coin_10, eX6_coin_11, eX6_coin_12, eX6_coin_14, eX6_coin_17, eX6_coin_20, eX6_coin_21, eX6_coin_22, eX6_coin_23, eX6_coin_26, eX6_coin_29, eX6_coin_31, eX6_coin_32, eX6_coin_33, eX6_coin_36, eX6_coin_39, eX6_coin_40, Option.toList_some, Option.toList_none, List.cons_append, List.nil_append, gcat_nil, gcat_cons, cat_int, cat_ref, cat_null, cat_ret, cat_long, grc_ref, narZ0, narZ1, true_and, and_true, decide_true, Nat.reduceAdd, Nat.reduceLeDiff, if_true, if_false, eq_self, gfld_in, gobj_in, garr_in, garq_in, glen_in, gisO_in, ex_some, List.getElem?_cons_succ, List.getElem?_cons_zero, List.length_cons, List.length_nil, List.set_cons_succ, List.set_cons_zero, Nat.reduceLT, va_up_eq, va_up_nl, gb_0, c6_in]
  by_cases h1 : 1 ≤ a ∧ a ≤ 99
  · rw [if_neg (fun z => z h1)]
    by_cases h2 : 1 ≤ b ∧ b ≤ 99
    · rw [if_neg (fun z => z h2)]
      by_cases h3 : 0 ≤ c ∧ c ≤ 2
      · rw [if_neg (fun z => z h3)]
        by_cases h4 : 0 ≤ f ∧ f ≤ 2
        · exact absurd ⟨⟨h1, h2, h3⟩, h4⟩ h
        · rw [if_neg (fun z => z h4)]
      · rw [if_pos h3]
    · rw [if_pos h2]
  · rw [if_pos h1]
theorem c6_coin (hK : K ≤ 6) (h0 : nw 0 = nI K) (hW : ∀ c, c < K → nw (5 * c + 4) = nI (We c) ∧ We c < 1000) (hN : N ≤ 6) (h31 : nw 31 = nI N) {a b c : Int32} (h : gcn2 a b c) {f : Nat} (hf : f ≤ 2) : gEv (gT X) 164 0 [.ref o, .int a, .int b, .int c, .int (nI f), .null] [] n k (mW w o nw rd ps de im ik tx le pz tk ta va fa se it al ln fz fb be fo fm io) Q ↔ Q (some (.int (if f = 0 then nI (mbn nw (-9) 0 (fun p => p) N a b c) else if f = 1 then mks (fun c => mbs (fun x => mbc nw (-9) 0 (fun p => p) N c (nI x)) (We c)) (nI (mbn nw (-9) 0 (fun p => p) N a b c)) K else mtl nw (fun p => p) (nI (mbn nw (-9) 0 (fun p => p) N a b c)) 0 N 0))) n k (mW w o nw rd ps de im ik tx le pz tk ta va fa se it (mrng 0 N nI al) (nI N) (-9) 0 be fo fm io) := by
  obtain ⟨h1, h2, h3⟩ := h
  have h4 : 0 ≤ nI f ∧ nI f ≤ 2 := ⟨nI_pos' (by omega), nI_le (b := 2) (by omega) (by omega)⟩
  have hc : f = 0 ∨ f = 1 ∨ f = 2 := by omega
  have z10 : ¬ (1 : Int32) = 0 := by decide
  have z20 : ¬ (2 : Int32) = 0 := by decide
  have z21 : ¬ (2 : Int32) = 1 := by decide
  rcases hc with rfl | rfl | rfl
  · have z0 : nI 0 = 0 := rfl
    rw [z0] at h4
    simp only [eX6_coin_0, eX6_coin_1, eX6_coin_2, eX6_coin_4, eX6_coin_7, eX6_coin_10, eX6_coin_11, eX6_coin_12, eX6_coin_14, eX6_coin_17, eX6_coin_20, eX6_coin_21, eX6_coin_22, eX6_coin_23, eX6_coin_26, eX6_coin_29, eX6_coin_31, eX6_coin_32, eX6_coin_33, eX6_coin_36, eX6_coin_39, eX6_coin_40, eX6_coin_41, eX6_coin_42, eX6_coin_45, eX6_coin_46, eX6_coin_47, eX6_coin_48, eX6_coin_49, eX6_coin_52, eX6_coin_52b, eX6_coin_52c, eX6_coin_52d, eX6_coin_54, eX6_coin_56, eX6_coin_59, eX6_coin_61, eX6_coin_64, eX6_coin_66, eX6_coin_67, eX6_coin_70, eX6_coin_71, eX6_coin_73, eX6_coin_76, eX6_coin_79, eX6_coin_80, eX6_coin_82, eX6_coin_85, Option.toList_some, Option.toList_none, List.cons_append, List.nil_append, gcat_nil, gcat_cons, cat_int, cat_ref, cat_null, cat_ret, cat_long, grc_ref, narZ0, narZ1, true_and, and_true, decide_true, Nat.reduceAdd, Nat.reduceLeDiff, if_true, if_false, eq_self, gfld_in, gobj_in, garr_in, garq_in, glen_in, gisO_in, ex_some, List.getElem?_cons_succ, List.getElem?_cons_zero, List.length_cons, List.length_nil, List.set_cons_succ, List.set_cons_zero, Nat.reduceLT, va_up_eq, va_up_nl, mW_0, gb_0, c6_in, h1, h2, h3, h4, not_true_eq_false, not_false_eq_true, c6_asTold hN h31, z0, c6_binOf hN (halT hN)]
  · have z0 : nI 1 = 1 := rfl
    rw [z0] at h4
    simp only [eX6_coin_0, eX6_coin_1, eX6_coin_2, eX6_coin_4, eX6_coin_7, eX6_coin_10, eX6_coin_11, eX6_coin_12, eX6_coin_14, eX6_coin_17, eX6_coin_20, eX6_coin_21, eX6_coin_22, eX6_coin_23, eX6_coin_26, eX6_coin_29, eX6_coin_31, eX6_coin_32, eX6_coin_33, eX6_coin_36, eX6_coin_39, eX6_coin_40, eX6_coin_41, eX6_coin_42, eX6_coin_45, eX6_coin_46, eX6_coin_47, eX6_coin_48, eX6_coin_49, eX6_coin_52, eX6_coin_52b, eX6_coin_52c, eX6_coin_52d, eX6_coin_54, eX6_coin_56, eX6_coin_59, eX6_coin_61, eX6_coin_64, eX6_coin_66, eX6_coin_67, eX6_coin_70, eX6_coin_71, eX6_coin_73, eX6_coin_76, eX6_coin_79, eX6_coin_80, eX6_coin_82, eX6_coin_85, Option.toList_some, Option.toList_none, List.cons_append, List.nil_append, gcat_nil, gcat_cons, cat_int, cat_ref, cat_null, cat_ret, cat_long, grc_ref, narZ0, narZ1, true_and, and_true, decide_true, Nat.reduceAdd, Nat.reduceLeDiff, if_true, if_false, eq_self, gfld_in, gobj_in, garr_in, garq_in, glen_in, gisO_in, ex_some, List.getElem?_cons_succ, List.getElem?_cons_zero, List.length_cons, List.length_nil, List.set_cons_succ, List.set_cons_zero, Nat.reduceLT, va_up_eq, va_up_nl, mW_0, gb_0, c6_in, h1, h2, h3, h4, not_true_eq_false, not_false_eq_true, c6_asTold hN h31, z0, z10, c6_binOf hN (halT hN), c6_kindsOf hN hK h0 (halT hN) hW]
    rfl
  · have z0 : nI 2 = 2 := rfl
    rw [z0] at h4
    simp only [eX6_coin_0, eX6_coin_1, eX6_coin_2, eX6_coin_4, eX6_coin_7, eX6_coin_10, eX6_coin_11, eX6_coin_12, eX6_coin_14, eX6_coin_17, eX6_coin_20, eX6_coin_21, eX6_coin_22, eX6_coin_23, eX6_coin_26, eX6_coin_29, eX6_coin_31, eX6_coin_32, eX6_coin_33, eX6_coin_36, eX6_coin_39, eX6_coin_40, eX6_coin_41, eX6_coin_42, eX6_coin_45, eX6_coin_46, eX6_coin_47, eX6_coin_48, eX6_coin_49, eX6_coin_52, eX6_coin_52b, eX6_coin_52c, eX6_coin_52d, eX6_coin_54, eX6_coin_56, eX6_coin_59, eX6_coin_61, eX6_coin_64, eX6_coin_66, eX6_coin_67, eX6_coin_70, eX6_coin_71, eX6_coin_73, eX6_coin_76, eX6_coin_79, eX6_coin_80, eX6_coin_82, eX6_coin_85, Option.toList_some, Option.toList_none, List.cons_append, List.nil_append, gcat_nil, gcat_cons, cat_int, cat_ref, cat_null, cat_ret, cat_long, grc_ref, narZ0, narZ1, true_and, and_true, decide_true, Nat.reduceAdd, Nat.reduceLeDiff, if_true, if_false, eq_self, gfld_in, gobj_in, garr_in, garq_in, glen_in, gisO_in, ex_some, List.getElem?_cons_succ, List.getElem?_cons_zero, List.length_cons, List.length_nil, List.set_cons_succ, List.set_cons_zero, Nat.reduceLT, va_up_eq, va_up_nl, mW_0, gb_0, c6_in, h1, h2, h3, h4, not_true_eq_false, not_false_eq_true, c6_asTold hN h31, z0, z20, z21, c6_binOf hN (halT hN), c6_tollTo hN (halT hN)]
    rfl
theorem c6_kind_bad (hK : K ≤ 6) (h0 : nw 0 = nI K) {a f : Int32} (h : ¬ ((0 ≤ a ∧ a < nI K) ∧ 0 ≤ f ∧ f ≤ 7)) : gEv (gT X) 161 0 [.ref o, .int a, .int f] [] n k (mW w o nw rd ps de im ik tx le pz tk ta va fa se it al ln fz fb be fo fm io) Q ↔ Q (some (.int (-1))) n k (mW w o nw rd ps de im ik tx le pz tk ta va fa se it al ln fz fb be fo fm io) := by
  simp only [eX6_kind_0, eX6_kind_1, eX6_kind_2, eX6_kind_5, eX6_kind_8, eX6_kind_9, eX6_kind_10, eX6_kind_12, eX6_kind_15, eX6_kind_18, eX6_kind_19, Option.toList_some, Option.toList_none, List.cons_append, List.nil_append, gcat_nil, gcat_cons, cat_int, cat_ref, cat_null, cat_ret, cat_long, grc_ref, narZ0, narZ1, true_and, and_true, decide_true, Nat.reduceAdd, Nat.reduceLeDiff, if_true, if_false, eq_self, gfld_in, gobj_in, garr_in, garq_in, glen_in, gisO_in, ex_some, List.getElem?_cons_succ, List.getElem?_cons_zero, List.length_cons, List.length_nil, List.set_cons_succ, List.set_cons_zero, Nat.reduceLT, va_up_eq, va_up_nl, mW_0, c6_isKind h0 hK, gb_0, c6_in]
  by_cases h1 : 0 ≤ a ∧ a < nI K
  · rw [if_neg (fun z => z h1)]
    by_cases h2 : 0 ≤ f ∧ f ≤ 7
    · exact absurd ⟨h1, h2⟩ h
    · rw [if_neg (fun z => z h2)]
  · rw [if_pos h1]
theorem c6_kind (hK : K ≤ 6) (h0 : nw 0 = nI K) (hW : ∀ c, c < K → nw (5 * c + 4) = nI (We c) ∧ We c < 1000) (hN : N ≤ 6) (h31 : nw 31 = nI N) {c : Nat} (hc : c < K) {wt : Nat} (hwt : nw (5 * c + 2) = nI wt) (hwt9 : wt < 1000) {f : Nat} (hf : f ≤ 7) : gEv (gT X) 161 0 [.ref o, .int (nI c), .int (nI f)] [] n k (mW w o nw rd ps de im ik tx le pz tk ta va fa se it al ln fz fb be fo fm io) Q ↔ Q (some (.int (if f < 5 then nw (5 * c + 1 + f) else if f = 5 then mbs (fun x => mbc nw (-9) 0 (fun p => p) N c (nI x)) (We c) else if f = 6 then mto (fun x => mtl nw (fun p => p) (nI (mbc nw (-9) 0 (fun p => p) N c (nI x))) 0 N 0) (We c) else gfor (fun x m => if maa (fun c' => mbs (fun x => mbc nw (-9) 0 (fun p => p) N c' (nI x)) (if nI c' = nI c then x else We c')) 0 K 0 1 = 0 then m else nI x) 0 wt (-9)))) n k (mW w o nw rd ps de im ik tx le pz tk ta va fa se it (mrng 0 N nI al) (nI N) (-9) 0 be fo fm io) := by
  have h1 : 0 ≤ nI c ∧ nI c < nI K := ⟨nI_pos' (by omega), nI_lt hc (by omega)⟩
  have h2 : 0 ≤ nI f ∧ nI f ≤ 7 := ⟨nI_pos' (by omega), nI_le (b := 7) (by omega) (by omega)⟩
  have hc6 : c < 6 := by omega
  by_cases q : f < 5
  · have e : ¬ 5 ≤ nI f := nI_ge (b := 5) (by omega) (by omega)
    simp only [eX6_kind_0, eX6_kind_1, eX6_kind_2, eX6_kind_5, eX6_kind_8, eX6_kind_9, eX6_kind_10, eX6_kind_12, eX6_kind_15, eX6_kind_18, eX6_kind_19, eX6_kind_20, eX6_kind_21, eX6_kind_24, eX6_kind_25, eX6_kind_26, eX6_kind_29, eX6_kind_30, eX6_kind_31, eX6_kind_32, eX6_kind_35, eX6_kind_38, eX6_kind_39, eX6_kind_40, eX6_kind_43, eX6_kind_44, eX6_kind_45, eX6_kind_46, eX6_kind_47, eX6_kind_48, eX6_kind_51, eX6_kind_54, eX6_kind_57, eX6_kind_58, eX6_kind_60, eX6_kind_63, eX6_kind_64, eX6_kind_65, eX6_kind_68, eX6_kind_71, eX6_kind_72, eX6_kind_73, eX6_kind_76, Option.toList_some, Option.toList_none, List.cons_append, List.nil_append, gcat_nil, gcat_cons, cat_int, cat_ref, cat_null, cat_ret, cat_long, grc_ref, narZ0, narZ1, true_and, and_true, decide_true, Nat.reduceAdd, Nat.reduceLeDiff, if_true, if_false, eq_self, gfld_in, gobj_in, garr_in, garq_in, glen_in, gisO_in, ex_some, List.getElem?_cons_succ, List.getElem?_cons_zero, List.length_cons, List.length_nil, List.set_cons_succ, List.set_cons_zero, Nat.reduceLT, va_up_eq, va_up_nl, mW_0, c6_isKind h0 hK, gb_0, c6_in, h1, h2, not_true_eq_false, not_false_eq_true, c6_asTold hN h31, e, q, c6_ofKind hc6 q]
  · rw [if_neg q]
    have f3 : ∀ {al : Nat → Int32} {ln fz fb : Int32} {Q : Option Value → Nat → Nat → gH → Prop}, gEv (gT X) 138 0 [.ref o, .int (nI c), .int 3] [] n k (mW w o nw rd ps de im ik tx le pz tk ta va fa se it al ln fz fb be fo fm io) Q ↔ Q (some (.int (nw (5 * c + 4)))) n k (mW w o nw rd ps de im ik tx le pz tk ta va fa se it al ln fz fb be fo fm io) := c6_ofKind hc6 (f := 3) (by decide)
    have e5 : 5 ≤ nI f := nI_le (a := 5) (by omega) (by omega)
    obtain ⟨hw1, hw2⟩ := hW c hc
    have hc3 : f = 5 ∨ f = 6 ∨ f = 7 := by omega
    have z65 : ¬ (6 : Int32) = 5 := by decide
    have z75 : ¬ (7 : Int32) = 5 := by decide
    have z76 : ¬ (7 : Int32) = 6 := by decide
    rcases hc3 with rfl | rfl | rfl
    · have z0 : nI 5 = 5 := rfl
      rw [z0] at h2 e5
      simp only [eX6_kind_0, eX6_kind_1, eX6_kind_2, eX6_kind_5, eX6_kind_8, eX6_kind_9, eX6_kind_10, eX6_kind_12, eX6_kind_15, eX6_kind_18, eX6_kind_19, eX6_kind_20, eX6_kind_21, eX6_kind_24, eX6_kind_25, eX6_kind_26, eX6_kind_29, eX6_kind_30, eX6_kind_31, eX6_kind_32, eX6_kind_35, eX6_kind_38, eX6_kind_39, eX6_kind_40, eX6_kind_43, eX6_kind_44, eX6_kind_45, eX6_kind_46, eX6_kind_47, eX6_kind_48, eX6_kind_51, eX6_kind_54, eX6_kind_57, eX6_kind_58, eX6_kind_60, eX6_kind_63, eX6_kind_64, eX6_kind_65, eX6_kind_68, eX6_kind_71, eX6_kind_72, eX6_kind_73, eX6_kind_76, Option.toList_some, Option.toList_none, List.cons_append, List.nil_append, gcat_nil, gcat_cons, cat_int, cat_ref, cat_null, cat_ret, cat_long, grc_ref, narZ0, narZ1, true_and, and_true, decide_true, Nat.reduceAdd, Nat.reduceLeDiff, if_true, if_false, eq_self, gfld_in, gobj_in, garr_in, garq_in, glen_in, gisO_in, ex_some, List.getElem?_cons_succ, List.getElem?_cons_zero, List.length_cons, List.length_nil, List.set_cons_succ, List.set_cons_zero, Nat.reduceLT, va_up_eq, va_up_nl, mW_0, c6_isKind h0 hK, gb_0, c6_in, h1, h2, not_true_eq_false, not_false_eq_true, c6_asTold hN h31, z0, e5, f3, hw1, c6_binsOf hN (halT hN) hc6 hw2]
    · have z0 : nI 6 = 6 := rfl
      rw [z0] at h2 e5
      simp only [eX6_kind_0, eX6_kind_1, eX6_kind_2, eX6_kind_5, eX6_kind_8, eX6_kind_9, eX6_kind_10, eX6_kind_12, eX6_kind_15, eX6_kind_18, eX6_kind_19, eX6_kind_20, eX6_kind_21, eX6_kind_24, eX6_kind_25, eX6_kind_26, eX6_kind_29, eX6_kind_30, eX6_kind_31, eX6_kind_32, eX6_kind_35, eX6_kind_38, eX6_kind_39, eX6_kind_40, eX6_kind_43, eX6_kind_44, eX6_kind_45, eX6_kind_46, eX6_kind_47, eX6_kind_48, eX6_kind_51, eX6_kind_54, eX6_kind_57, eX6_kind_58, eX6_kind_60, eX6_kind_63, eX6_kind_64, eX6_kind_65, eX6_kind_68, eX6_kind_71, eX6_kind_72, eX6_kind_73, eX6_kind_76, Option.toList_some, Option.toList_none, List.cons_append, List.nil_append, gcat_nil, gcat_cons, cat_int, cat_ref, cat_null, cat_ret, cat_long, grc_ref, narZ0, narZ1, true_and, and_true, decide_true, Nat.reduceAdd, Nat.reduceLeDiff, if_true, if_false, eq_self, gfld_in, gobj_in, garr_in, garq_in, glen_in, gisO_in, ex_some, List.getElem?_cons_succ, List.getElem?_cons_zero, List.length_cons, List.length_nil, List.set_cons_succ, List.set_cons_zero, Nat.reduceLT, va_up_eq, va_up_nl, mW_0, c6_isKind h0 hK, gb_0, c6_in, h1, h2, not_true_eq_false, not_false_eq_true, c6_asTold hN h31, z0, e5, z65, c6_tollOf hN (halT hN) hc6 hw1 hw2]
      rfl
    · have z0 : nI 7 = 7 := rfl
      rw [z0] at h2 e5
      simp only [eX6_kind_0, eX6_kind_1, eX6_kind_2, eX6_kind_5, eX6_kind_8, eX6_kind_9, eX6_kind_10, eX6_kind_12, eX6_kind_15, eX6_kind_18, eX6_kind_19, eX6_kind_20, eX6_kind_21, eX6_kind_24, eX6_kind_25, eX6_kind_26, eX6_kind_29, eX6_kind_30, eX6_kind_31, eX6_kind_32, eX6_kind_35, eX6_kind_38, eX6_kind_39, eX6_kind_40, eX6_kind_43, eX6_kind_44, eX6_kind_45, eX6_kind_46, eX6_kind_47, eX6_kind_48, eX6_kind_51, eX6_kind_54, eX6_kind_57, eX6_kind_58, eX6_kind_60, eX6_kind_63, eX6_kind_64, eX6_kind_65, eX6_kind_68, eX6_kind_71, eX6_kind_72, eX6_kind_73, eX6_kind_76, Option.toList_some, Option.toList_none, List.cons_append, List.nil_append, gcat_nil, gcat_cons, cat_int, cat_ref, cat_null, cat_ret, cat_long, grc_ref, narZ0, narZ1, true_and, and_true, decide_true, Nat.reduceAdd, Nat.reduceLeDiff, if_true, if_false, eq_self, gfld_in, gobj_in, garr_in, garq_in, glen_in, gisO_in, ex_some, List.getElem?_cons_succ, List.getElem?_cons_zero, List.length_cons, List.length_nil, List.set_cons_succ, List.set_cons_zero, Nat.reduceLT, va_up_eq, va_up_nl, mW_0, c6_isKind h0 hK, gb_0, c6_in, h1, h2, not_true_eq_false, not_false_eq_true, c6_asTold hN h31, z0, e5, z75, z76, c6_bearsOf hN hK h0 (halT hN) hW hc6 hwt hwt9]
      rfl
theorem c6_track_bad (hN : N ≤ 6) (h31 : nw 31 = nI N) {x : Int32} (h : ¬ (0 ≤ x ∧ x ≤ 4)) : gEv (gT X) 167 0 [.ref o, .int x] [] n k (mW w o nw rd ps de im ik tx le pz tk ta va fa se it al ln fz fb be fo fm io) Q ↔ Q (some (.int (-1))) n k (mW w o nw rd ps de im ik tx le pz tk ta va fa se it (mrng 0 N nI al) (nI N) (-9) 0 be fo fm io) := by
  have e : gtab 5 74 0 [35, 51, 56, 61, 69] x = 79 := gtab_out (hi := 4) rfl (by decide) h
  simp only [eX6_track_0, eX6_track_1, eX6_track_4, eX6_track_5, eX6_track_79, eX6_track_80, Option.toList_some, Option.toList_none, List.cons_append, List.nil_append, gcat_nil, gcat_cons, cat_int, cat_ref, cat_null, cat_ret, cat_long, grc_ref, narZ0, narZ1, true_and, and_true, decide_true, Nat.reduceAdd, Nat.reduceLeDiff, if_true, if_false, eq_self, gfld_in, gobj_in, garr_in, garq_in, glen_in, gisO_in, ex_some, List.getElem?_cons_succ, List.getElem?_cons_zero, List.length_cons, List.length_nil, List.set_cons_succ, List.set_cons_zero, Nat.reduceLT, va_up_eq, va_up_nl, mW_0, c6_asTold hN h31, e]
theorem c6_track (hK : K ≤ 6) (h0 : nw 0 = nI K) (hW : ∀ c, c < K → nw (5 * c + 4) = nI (We c) ∧ We c < 1000) (hN : N ≤ 6) (h31 : nw 31 = nI N) {f : Nat} (hf : f ≤ 3) : gEv (gT X) 167 0 [.ref o, .int (nI f)] [] n k (mW w o nw rd ps de im ik tx le pz tk ta va fa se it al ln fz fb be fo fm io) Q ↔ Q (some (.int (if f = 0 then gb (¬ maa (fun c => mbs (fun x => mbc nw (-9) 0 (fun p => p) N c (nI x)) (We c)) 0 K 0 1 = 0) else if f = 1 then mdb (fun c => mbs (fun x => mbc nw (-9) 0 (fun p => p) N c (nI x)) (We c)) K else if f = 2 then mpr nw (fun c => mto (fun x => mtl nw (fun p => p) (nI (mbc nw (-9) 0 (fun p => p) N c (nI x))) 0 N 0) (We c)) K else nw 58))) n k (mW w o nw rd ps de im ik tx le pz tk ta va fa se it (mrng 0 N nI al) (nI N) (-9) 0 be fo fm io) := by
  have g0 : gtab 5 74 0 [35, 51, 56, 61, 69] (nI 0) = 40 := by decide
  have g1 : gtab 5 74 0 [35, 51, 56, 61, 69] (nI 1) = 56 := by decide
  have g2 : gtab 5 74 0 [35, 51, 56, 61, 69] (nI 2) = 61 := by decide
  have g3 : gtab 5 74 0 [35, 51, 56, 61, 69] (nI 3) = 66 := by decide
  have v : vp_in 58 59 := vp_in_nI (n := 58) (by omega) (by omega)
  have y : (58 : Int32).toNatClampNeg = 58 := by decide
  have hap : ∀ {al : Nat → Int32} {Q : Option Value → Nat → Nat → gH → Prop}, (∀ p, p < N → al p = nI p ∧ p < 6) → (gEv (gT X) 147 0 [.ref o, .int (-9), .int 0, .null, .null, .null, .null] [] n k (mW w o nw rd ps de im ik tx le pz tk ta va fa se it al (nI N) (-9) 0 be fo fm io) Q ↔ Q (some (.int (maa (fun c => mbs (fun x => mbc nw (-9) 0 (fun p => p) N c (nI x)) (We c)) 0 K 0 1))) n k (mW w o nw rd ps de im ik tx le pz tk ta va fa se it al (nI N) (-9) 0 be fo fm io)) := by
    intro al Q ha
    have := @c6_areApart X n k w Q o nw rd ps im ik tx fa al be fo io de le pz tk ta va se it (-9) 0 fm K N (fun p => p) We hN hK h0 ha hW (-9) 0 (by omega)
    rw [show (nI 0 : Int32) = 0 from rfl] at this
    rw [this]
    have e : ∀ (D j : Nat) (had are : Int32), j + D ≤ 6 → maa (fun c => mbs (fun x => mbc nw (-9) 0 (fun p => p) N c (nI x)) (if nI c = -9 then 0 else We c)) j D had are = maa (fun c => mbs (fun x => mbc nw (-9) 0 (fun p => p) N c (nI x)) (We c)) j D had are := by
      intro D
      induction D with
      | zero => intro j had are _; rfl
      | succ D ih =>
        intro j had are hj
        have hne : ¬ nI j = -9 := fun z => by
          have h1 := congrArg Int32.toInt z
          rw [nI_toInt (by omega)] at h1
          have h2 : (-9 : Int32).toInt = -9 := by decide
          omega
        rw [maa, maa]
        rw [if_neg hne]
        exact ih (j + 1) _ _ (by omega)
    rw [e K 0 0 1 (by omega)]
  have hc : f = 0 ∨ f = 1 ∨ f = 2 ∨ f = 3 := by omega
  rcases hc with rfl | rfl | rfl | rfl
  · simp only [eX6_track_0, eX6_track_1, eX6_track_4, eX6_track_5, eX6_track_40, eX6_track_41, eX6_track_43, eX6_track_44, eX6_track_47, eX6_track_50, eX6_track_51, eX6_track_54, eX6_track_55, Option.toList_some, Option.toList_none, List.cons_append, List.nil_append, gcat_nil, gcat_cons, cat_int, cat_ref, cat_null, cat_ret, cat_long, grc_ref, narZ0, narZ1, true_and, and_true, decide_true, Nat.reduceAdd, Nat.reduceLeDiff, if_true, if_false, eq_self, gfld_in, gobj_in, garr_in, garq_in, glen_in, gisO_in, ex_some, List.getElem?_cons_succ, List.getElem?_cons_zero, List.length_cons, List.length_nil, List.set_cons_succ, List.set_cons_zero, Nat.reduceLT, va_up_eq, va_up_nl, mW_0, c6_asTold hN h31, g0, hap (halT hN)]
    by_cases q : maa (fun c => mbs (fun x => mbc nw (-9) 0 (fun p => p) N c (nI x)) (We c)) 0 K 0 1 = 0
    · rw [if_pos q, gb_f (fun z => z q)]
    · rw [if_neg q, gb_t q]
  · simp only [eX6_track_0, eX6_track_1, eX6_track_4, eX6_track_5, eX6_track_56, eX6_track_57, eX6_track_60, Option.toList_some, Option.toList_none, List.cons_append, List.nil_append, gcat_nil, gcat_cons, cat_int, cat_ref, cat_null, cat_ret, cat_long, grc_ref, narZ0, narZ1, true_and, and_true, decide_true, Nat.reduceAdd, Nat.reduceLeDiff, if_true, if_false, eq_self, gfld_in, gobj_in, garr_in, garq_in, glen_in, gisO_in, ex_some, List.getElem?_cons_succ, List.getElem?_cons_zero, List.length_cons, List.length_nil, List.set_cons_succ, List.set_cons_zero, Nat.reduceLT, va_up_eq, va_up_nl, mW_0, c6_asTold hN h31, g1, c6_doubtful hN hK h0 (halT hN) hW]
    rfl
  · simp only [eX6_track_0, eX6_track_1, eX6_track_4, eX6_track_5, eX6_track_61, eX6_track_62, eX6_track_65, Option.toList_some, Option.toList_none, List.cons_append, List.nil_append, gcat_nil, gcat_cons, cat_int, cat_ref, cat_null, cat_ret, cat_long, grc_ref, narZ0, narZ1, true_and, and_true, decide_true, Nat.reduceAdd, Nat.reduceLeDiff, if_true, if_false, eq_self, gfld_in, gobj_in, garr_in, garq_in, glen_in, gisO_in, ex_some, List.getElem?_cons_succ, List.getElem?_cons_zero, List.length_cons, List.length_nil, List.set_cons_succ, List.set_cons_zero, Nat.reduceLT, va_up_eq, va_up_nl, mW_0, c6_asTold hN h31, g2, c6_priceNow hN hK h0 (halT hN) hW]
    rfl
  · simp only [eX6_track_0, eX6_track_1, eX6_track_4, eX6_track_5, eX6_track_66, eX6_track_67, eX6_track_70, eX6_track_72, eX6_track_73, Option.toList_some, Option.toList_none, List.cons_append, List.nil_append, gcat_nil, gcat_cons, cat_int, cat_ref, cat_null, cat_ret, cat_long, grc_ref, narZ0, narZ1, true_and, and_true, decide_true, Nat.reduceAdd, Nat.reduceLeDiff, if_true, if_false, eq_self, gfld_in, gobj_in, garr_in, garq_in, glen_in, gisO_in, ex_some, List.getElem?_cons_succ, List.getElem?_cons_zero, List.length_cons, List.length_nil, List.set_cons_succ, List.set_cons_zero, Nat.reduceLT, va_up_eq, va_up_nl, mW_0, mW_1, c6_asTold hN h31, g3, v, y]
    rfl
end MC
