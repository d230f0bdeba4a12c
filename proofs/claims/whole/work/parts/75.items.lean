/-! THE TELLER: items -/
section TF
variable {X : gX} {n k : Nat} {w : gH} {Q : Option Value → Nat → Nat → gH → Prop} {lt nb : Nat → Int32} {tl tt st en : Int32} {l : Nat} {tv : Nat → Nat} {dk dt dc : Nat → Int32} {kc tc rm jm : Int32}
theorem tWs_11 : tW (sTr w 11 dk dt dc kc tc rm jm) lt nb tl tt st en 11 = .inr (3, [.ref 12, .ref 13, .ref 14, .int kc, .int tc, .int rm, .int jm]) := by
  rw [tW_ne (by omega)]
  exact sTr_0
theorem c_boundFits {so b : Int32} : gEv (gT X) 111 0 [.int so, .int b] [] n k w Q ↔ Q (some (.int (gb ((if so = 2 then (0 : Int32) else 1) ≤ b ∧ b ≤ (if so = 2 then 2 else 99))))) n k w := by
  simp only [eX5_boundFits_0, eX5_boundFits_1, eX5_boundFits_2, Option.toList_some, Option.toList_none, List.cons_append, List.nil_append, gcat_nil, gcat_cons, cat_int, cat_ref, cat_null, cat_ret, cat_long, grc_ref, narZ0, narZ1, true_and, and_true, decide_true, Nat.reduceAdd, Nat.reduceLeDiff, if_true, if_false, eq_self, gfld_in, gobj_in, garr_in, garq_in, glen_in, gisO_in, ex_some, List.getElem?_cons_succ, List.getElem?_cons_zero, List.length_cons, List.length_nil, List.set_cons_succ, List.set_cons_zero, Nat.reduceLT, va_up_eq, va_up_nl]
  by_cases q : so = 2
  · rw [if_neg (fun z => z q), if_pos q, if_pos q]
    simp only [eX5_boundFits_5, eX5_boundFits_6, eX5_boundFits_7, eX5_boundFits_8, eX5_boundFits_11, eX5_boundFits_21, Option.toList_some, Option.toList_none, List.cons_append, List.nil_append, gcat_nil, gcat_cons, cat_int, cat_ref, cat_null, cat_ret, cat_long, grc_ref, narZ0, narZ1, true_and, and_true, decide_true, Nat.reduceAdd, Nat.reduceLeDiff, if_true, if_false, eq_self, gfld_in, gobj_in, garr_in, garq_in, glen_in, gisO_in, ex_some, List.getElem?_cons_succ, List.getElem?_cons_zero, List.length_cons, List.length_nil, List.set_cons_succ, List.set_cons_zero, Nat.reduceLT, va_up_eq, va_up_nl, c_within]
    by_cases q2 : 0 ≤ b ∧ b ≤ 2
    · simp only [gb_t q2, narZ1, true_and]
    · simp only [gb_f q2, narZ0, true_and]
  · rw [if_pos q, if_neg q, if_neg q]
    simp only [eX5_boundFits_14, eX5_boundFits_15, eX5_boundFits_16, eX5_boundFits_18, eX5_boundFits_21, Option.toList_some, Option.toList_none, List.cons_append, List.nil_append, gcat_nil, gcat_cons, cat_int, cat_ref, cat_null, cat_ret, cat_long, grc_ref, narZ0, narZ1, true_and, and_true, decide_true, Nat.reduceAdd, Nat.reduceLeDiff, if_true, if_false, eq_self, gfld_in, gobj_in, garr_in, garq_in, glen_in, gisO_in, ex_some, List.getElem?_cons_succ, List.getElem?_cons_zero, List.length_cons, List.length_nil, List.set_cons_succ, List.set_cons_zero, Nat.reduceLT, va_up_eq, va_up_nl, c_within]
    by_cases q2 : 1 ≤ b ∧ b ≤ 99
    · simp only [gb_t q2, narZ1, true_and]
    · simp only [gb_f q2, narZ0, true_and]
theorem c_wearFits {v r : Int32} : gEv (gT X) 113 0 [.int v, .int r] [] n k w Q ↔ Q (some (.int (gb ((0 ≤ r ∧ r ≤ 9) ∧ r < v)))) n k w := by
  simp only [eX5_wearFits_0, eX5_wearFits_1, eX5_wearFits_2, eX5_wearFits_4, eX5_wearFits_7, eX5_wearFits_10, eX5_wearFits_11, eX5_wearFits_12, eX5_wearFits_15, eX5_wearFits_16, eX5_wearFits_19, eX5_wearFits_20, Option.toList_some, Option.toList_none, List.cons_append, List.nil_append, gcat_nil, gcat_cons, cat_int, cat_ref, cat_null, cat_ret, cat_long, grc_ref, narZ0, narZ1, true_and, and_true, decide_true, Nat.reduceAdd, Nat.reduceLeDiff, if_true, if_false, eq_self, gfld_in, gobj_in, garr_in, garq_in, glen_in, gisO_in, ex_some, List.getElem?_cons_succ, List.getElem?_cons_zero, List.length_cons, List.length_nil, List.set_cons_succ, List.set_cons_zero, Nat.reduceLT, va_up_eq, va_up_nl, c_within, gb_0]
  by_cases q : 0 ≤ r ∧ r ≤ 9
  · rw [if_neg (fun z => z q)]
    by_cases q2 : v ≤ r
    · rw [if_pos q2, gb_f (fun z => absurd z.2 (Int32.not_lt.mpr q2))]
    · rw [if_neg q2, gb_t ⟨q, Int32.not_le.mp q2⟩]
  · rw [if_pos q, gb_f (fun z => q z.1)]
theorem c_coinFits {a b c : Int32} : gEv (gT X) 112 0 [.int a, .int b, .int c] [] n k w Q ↔ Q (some (.int (gb ((1 ≤ a ∧ a ≤ 99) ∧ (1 ≤ b ∧ b ≤ 99) ∧ (0 ≤ c ∧ c ≤ 2))))) n k w := by
  simp only [eX5_coinFits_0, eX5_coinFits_1, eX5_coinFits_2, eX5_coinFits_4, eX5_coinFits_7, eX5_coinFits_10, eX5_coinFits_11, eX5_coinFits_12, eX5_coinFits_14, eX5_coinFits_17, eX5_coinFits_20, eX5_coinFits_21, eX5_coinFits_22, eX5_coinFits_23, eX5_coinFits_26, eX5_coinFits_29, eX5_coinFits_30, eX5_coinFits_33, eX5_coinFits_34, Option.toList_some, Option.toList_none, List.cons_append, List.nil_append, gcat_nil, gcat_cons, cat_int, cat_ref, cat_null, cat_ret, cat_long, grc_ref, narZ0, narZ1, true_and, and_true, decide_true, Nat.reduceAdd, Nat.reduceLeDiff, if_true, if_false, eq_self, gfld_in, gobj_in, garr_in, garq_in, glen_in, gisO_in, ex_some, List.getElem?_cons_succ, List.getElem?_cons_zero, List.length_cons, List.length_nil, List.set_cons_succ, List.set_cons_zero, Nat.reduceLT, va_up_eq, va_up_nl, c_within, gb_0]
  by_cases q : 1 ≤ a ∧ a ≤ 99
  · rw [if_neg (fun z => z q)]
    by_cases q2 : 1 ≤ b ∧ b ≤ 99
    · rw [if_neg (fun z => z q2)]
      by_cases q3 : 0 ≤ c ∧ c ≤ 2
      · rw [if_neg (fun z => z q3), gb_t ⟨q, q2, q3⟩]
      · rw [if_pos q3, gb_f (fun z => q3 z.2.2)]
    · rw [if_pos q2, gb_f (fun z => q2 z.2.1)]
  · rw [if_pos q, gb_f (fun z => q z.1)]
theorem c_mayCome {K N q : Nat} (hq : 4 ≤ q) (hq8 : q ≤ 8) (hK : K ≤ 6) (hN : N ≤ 6) : gEv (gT X) 33 0 [.ref 8, .int (tCi q)] [] n k (tW (sTr w 11 dk dt dc (nI K) (nI N) rm jm) lt nb tl tt st en) Q ↔ Q (some (.int (gb (¬ pno K N q)))) n k (tW (sTr w 11 dk dt dc (nI K) (nI N) rm jm) lt nb tl tt st en) := by
  have hc : q = 4 ∨ q = 8 ∨ q = 5 ∨ q = 6 ∨ q = 7 := by omega
  have cK : (6 ≤ nI K) ↔ K = 6 := by
    constructor
    · intro z
      by_cases h : K = 6
      · exact h
      · exact absurd z (nI_ge (b := 6) (by omega) (by omega))
    · intro z; rw [z]; decide
  have cN : (6 ≤ nI N) ↔ N = 6 := by
    constructor
    · intro z
      by_cases h : N = 6
      · exact h
      · exact absurd z (nI_ge (b := 6) (by omega) (by omega))
    · intro z; rw [z]; decide
  have test : ∀ (q : Nat) (x : Int32), 5 ≤ q → q ≤ 7 → ¬ x = 3 → ¬ x = 4 → (gEv (gT X) 33 0 [.ref 8, .int x] [] n k (tW (sTr w 11 dk dt dc (nI K) (nI N) rm jm) lt nb tl tt st en) Q ↔ Q (some (.int (gb (¬ pno K N q)))) n k (tW (sTr w 11 dk dt dc (nI K) (nI N) rm jm) lt nb tl tt st en)) := by
    intro q x h5 h7 h3 h4
    simp only [eX2_mayCome_0, eX2_mayCome_1, eX2_mayCome_2, eX2_mayCome_23, eX2_mayCome_24, eX2_mayCome_25, eX2_mayCome_28, eX2_mayCome_29, eX2_mayCome_32, eX2_mayCome_35, eX2_mayCome_37, eX2_mayCome_40, eX2_mayCome_41, eX2_mayCome_44, eX2_mayCome_45, Option.toList_some, Option.toList_none, List.cons_append, List.nil_append, gcat_nil, gcat_cons, cat_int, cat_ref, cat_null, cat_ret, cat_long, grc_ref, narZ0, narZ1, true_and, and_true, decide_true, Nat.reduceAdd, Nat.reduceLeDiff, if_true, if_false, eq_self, gfld_in, gobj_in, garr_in, garq_in, glen_in, gisO_in, ex_some, List.getElem?_cons_succ, List.getElem?_cons_zero, List.length_cons, List.length_nil, List.set_cons_succ, List.set_cons_zero, Nat.reduceLT, va_up_eq, va_up_nl, tW_8, tWs_11, h3, h4, not_false_eq_true, cN]
    by_cases z : N = 6
    · rw [if_pos z, gb_f (fun y => y (Or.inr (Or.inr ⟨h5, h7, z⟩)))]
    · rw [if_neg z, gb_t (show ¬ pno K N q from fun y => by rcases y with y | y | y <;> omega)]
  rcases hc with rfl | rfl | rfl | rfl | rfl
  · have e : tCi 4 = 3 := rfl
    rw [e]
    simp only [eX2_mayCome_0, eX2_mayCome_1, eX2_mayCome_2, eX2_mayCome_5, eX2_mayCome_6, eX2_mayCome_9, eX2_mayCome_12, eX2_mayCome_14, eX2_mayCome_17, eX2_mayCome_18, eX2_mayCome_21, eX2_mayCome_22, Option.toList_some, Option.toList_none, List.cons_append, List.nil_append, gcat_nil, gcat_cons, cat_int, cat_ref, cat_null, cat_ret, cat_long, grc_ref, narZ0, narZ1, true_and, and_true, decide_true, Nat.reduceAdd, Nat.reduceLeDiff, if_true, if_false, eq_self, gfld_in, gobj_in, garr_in, garq_in, glen_in, gisO_in, ex_some, List.getElem?_cons_succ, List.getElem?_cons_zero, List.length_cons, List.length_nil, List.set_cons_succ, List.set_cons_zero, Nat.reduceLT, va_up_eq, va_up_nl, tW_8, tWs_11, not_true_eq_false, cK]
    by_cases z : K = 6
    · rw [if_pos z, gb_f (fun y => y (Or.inr (Or.inl ⟨rfl, z⟩)))]
    · rw [if_neg z, gb_t (show ¬ pno K N 4 from fun y => by rcases y with y | y | y <;> omega)]
  · have e : tCi 8 = 4 := rfl
    have h3 : ¬ (4 : Int32) = 3 := by decide
    rw [e]
    simp only [eX2_mayCome_0, eX2_mayCome_1, eX2_mayCome_2, eX2_mayCome_23, eX2_mayCome_24, eX2_mayCome_25, eX2_mayCome_40, eX2_mayCome_41, eX2_mayCome_45, Option.toList_some, Option.toList_none, List.cons_append, List.nil_append, gcat_nil, gcat_cons, cat_int, cat_ref, cat_null, cat_ret, cat_long, grc_ref, narZ0, narZ1, true_and, and_true, decide_true, Nat.reduceAdd, Nat.reduceLeDiff, if_true, if_false, eq_self, gfld_in, gobj_in, garr_in, garq_in, glen_in, gisO_in, ex_some, List.getElem?_cons_succ, List.getElem?_cons_zero, List.length_cons, List.length_nil, List.set_cons_succ, List.set_cons_zero, Nat.reduceLT, va_up_eq, va_up_nl, h3, not_false_eq_true]
    rw [gb_t (show ¬ pno K N 8 from fun y => by rcases y with y | y | y <;> omega)]
  · exact test 5 _ (by omega) (by omega) (by decide) (by decide)
  · exact test 6 _ (by omega) (by omega) (by decide) (by decide)
  · exact test 7 _ (by omega) (by omega) (by decide) (by decide)
theorem nI_bt {v lo hi : Nat} (hv : v < 1000) (hlo : lo < 1000) (hhi : hi < 1000) : (nI lo ≤ nI v ∧ nI v ≤ nI hi) ↔ (lo ≤ v ∧ v ≤ hi) := by
  constructor
  · rintro ⟨h1, h2⟩
    constructor
    · by_cases q : lo ≤ v
      · exact q
      · exact absurd h1 (nI_ge (by omega) (by omega))
    · by_cases q : v ≤ hi
      · exact q
      · exact absurd h2 (nI_ge (by omega) (by omega))
  · rintro ⟨h1, h2⟩
    exact ⟨nI_le h1 (by omega), nI_le h2 (by omega)⟩
theorem c_fits {q f v : Nat} {vs : Nat → Nat} (hq : 4 ≤ q) (hq8 : q ≤ 8) (hf : f < pln q) (hv : v < 1000) (hn : 2 ≤ f → nb 1 = nI (vs 1) ∧ 1 ≤ vs 1 ∧ vs 1 < 1000) : gEv (gT X) 34 0 [.ref 8, .int (tCi q), .int (nI f), .int (nI v)] [] n k (tW w lt nb tl tt st en) Q ↔ Q (some (.int (gb ((pbd q vs f).1 ≤ v ∧ v ≤ (pbd q vs f).2)))) n k (tW w lt nb tl tt st en) := by
  have b1 : ((1 : Int32) ≤ nI v ∧ nI v ≤ 99) ↔ (1 ≤ v ∧ v ≤ 99) := nI_bt (lo := 1) (hi := 99) hv (by omega) (by omega)
  have b2 : ((0 : Int32) ≤ nI v ∧ nI v ≤ 2) ↔ (0 ≤ v ∧ v ≤ 2) := nI_bt (lo := 0) (hi := 2) hv (by omega) (by omega)
  have b3 : ((0 : Int32) ≤ nI v ∧ nI v ≤ 99) ↔ (0 ≤ v ∧ v ≤ 99) := nI_bt (lo := 0) (hi := 99) hv (by omega) (by omega)
  have b4 : ((1 : Int32) ≤ nI v ∧ nI v ≤ 9) ↔ (1 ≤ v ∧ v ≤ 9) := nI_bt (lo := 1) (hi := 9) hv (by omega) (by omega)
  have b5 : ((0 : Int32) ≤ nI v ∧ nI v ≤ 9) ↔ (0 ≤ v ∧ v ≤ 9) := nI_bt (lo := 0) (hi := 9) hv (by omega) (by omega)
  have fin : ∀ {p r : Prop} [Decidable p] [Decidable r] {Z : gH}, (p ↔ r) → ((narrow .boolean (.int (gb p)) = .int (gb p) ∧ Q (some (.int (gb p))) n k Z) ↔ Q (some (.int (gb r))) n k Z) := by
    intro p r _ _ Z h
    by_cases z : p
    · rw [gb_t z, gb_t (h.mp z)]; simp only [narZ1, true_and]
    · rw [gb_f z, gb_f (fun y => z (h.mpr y))]; simp only [narZ0, true_and]
  have fin2 : ∀ {p r : Prop} [Decidable p] [Decidable r] {Z : gH}, (p ↔ r) → ((narrow .boolean (.int (gb p)) = .int (gb p) ∧ narrow .boolean (.int (gb p)) = .int (gb p) ∧ Q (some (.int (gb p))) n k Z) ↔ Q (some (.int (gb r))) n k Z) := by
    intro p r _ _ Z h
    by_cases z : p
    · rw [gb_t z, gb_t (h.mp z)]; simp only [narZ1, true_and]
    · rw [gb_f z, gb_f (fun y => z (h.mpr y))]; simp only [narZ0, true_and]
  have v1 : vp_in 1 5 := vp_in_nI (n := 1) (by omega) (by omega)
  have y1 : (1 : Int32).toNatClampNeg = 1 := by decide
  have test : ∀ (q : Nat) (x : Int32), 5 ≤ q → q ≤ 7 → (x = 2 ↔ q = 7) → ¬ x = 3 → ¬ x = 4 → f < 2 → (gEv (gT X) 34 0 [.ref 8, .int x, .int (nI f), .int (nI v)] [] n k (tW w lt nb tl tt st en) Q ↔ Q (some (.int (gb ((pbd q vs f).1 ≤ v ∧ v ≤ (pbd q vs f).2)))) n k (tW w lt nb tl tt st en)) := by
    intro q x h5 h7 hx h3 h4 hf2
    have hf01 : f = 0 ∨ f = 1 := by omega
    rcases hf01 with rfl | rfl
    · have z0 : nI 0 = 0 := rfl
      simp only [eX2_fits_0, eX2_fits_1, eX2_fits_2, eX2_fits_12, eX2_fits_13, eX2_fits_14, eX2_fits_25, eX2_fits_26, eX2_fits_29, eX2_fits_30, eX2_fits_31, eX2_fits_34, eX2_fits_44, Option.toList_some, Option.toList_none, List.cons_append, List.nil_append, gcat_nil, gcat_cons, cat_int, cat_ref, cat_null, cat_ret, cat_long, grc_ref, narZ0, narZ1, true_and, and_true, decide_true, Nat.reduceAdd, Nat.reduceLeDiff, if_true, if_false, eq_self, gfld_in, gobj_in, garr_in, garq_in, glen_in, gisO_in, ex_some, List.getElem?_cons_succ, List.getElem?_cons_zero, List.length_cons, List.length_nil, List.set_cons_succ, List.set_cons_zero, Nat.reduceLT, va_up_eq, va_up_nl, h3, h4, z0, not_true_eq_false, not_false_eq_true, c_boundFits]
      refine fin ?_
      have ep : pbd q vs 0 = if q = 7 then (0, 2) else (1, 99) := by
        unfold pbd
        rw [if_neg (show ¬ q = 4 by omega), if_neg (show ¬ q = 8 by omega)]
        rfl
      rw [ep]
      by_cases y : q = 7
      · rw [if_pos y, if_pos (hx.mpr y), if_pos (hx.mpr y)]; exact b2
      · rw [if_neg y, if_neg (fun z => y (hx.mp z)), if_neg (fun z => y (hx.mp z))]; exact b1
    · have z1 : nI 1 = 1 := rfl
      have z10 : ¬ (1 : Int32) = 0 := by decide
      simp only [eX2_fits_0, eX2_fits_1, eX2_fits_2, eX2_fits_12, eX2_fits_13, eX2_fits_14, eX2_fits_25, eX2_fits_26, eX2_fits_37, eX2_fits_38, eX2_fits_39, eX2_fits_41, eX2_fits_44, Option.toList_some, Option.toList_none, List.cons_append, List.nil_append, gcat_nil, gcat_cons, cat_int, cat_ref, cat_null, cat_ret, cat_long, grc_ref, narZ0, narZ1, true_and, and_true, decide_true, Nat.reduceAdd, Nat.reduceLeDiff, if_true, if_false, eq_self, gfld_in, gobj_in, garr_in, garq_in, glen_in, gisO_in, ex_some, List.getElem?_cons_succ, List.getElem?_cons_zero, List.length_cons, List.length_nil, List.set_cons_succ, List.set_cons_zero, Nat.reduceLT, va_up_eq, va_up_nl, h3, h4, z1, z10, not_true_eq_false, not_false_eq_true, c_within]
      refine fin ?_
      have ep : pbd q vs 1 = (1, 9) := by
        unfold pbd
        rw [if_neg (show ¬ q = 4 by omega), if_neg (show ¬ q = 8 by omega)]
        rfl
      rw [ep]
      exact b4
  have hc : q = 4 ∨ q = 8 ∨ q = 5 ∨ q = 6 ∨ q = 7 := by omega
  rcases hc with rfl | rfl | rfl | rfl | rfl
  · have e : tCi 4 = 3 := rfl
    have hf5 : f = 0 ∨ f = 1 ∨ f = 2 ∨ f = 3 ∨ f = 4 := by have : pln 4 = 5 := rfl; omega
    have g0 : gtab 1 57 0 [31, 31, 39, 46] (nI 0) = 32 := by decide
    have g1 : gtab 1 57 0 [31, 31, 39, 46] (nI 1) = 32 := by decide
    have g2 : gtab 1 57 0 [31, 31, 39, 46] (nI 2) = 40 := by decide
    have g3 : gtab 1 57 0 [31, 31, 39, 46] (nI 3) = 47 := by decide
    have g4 : gtab 1 57 0 [31, 31, 39, 46] (nI 4) = 58 := by decide
    rw [e]
    rcases hf5 with rfl | rfl | rfl | rfl | rfl
    · simp only [eX2_fits_0, eX2_fits_1, eX2_fits_2, eX2_fits_5, eX2_fits_6, eX2_fits_7, eX2_fits_8, Option.toList_some, Option.toList_none, List.cons_append, List.nil_append, gcat_nil, gcat_cons, cat_int, cat_ref, cat_null, cat_ret, cat_long, grc_ref, narZ0, narZ1, true_and, and_true, decide_true, Nat.reduceAdd, Nat.reduceLeDiff, if_true, if_false, eq_self, gfld_in, gobj_in, garr_in, garq_in, glen_in, gisO_in, ex_some, List.getElem?_cons_succ, List.getElem?_cons_zero, List.length_cons, List.length_nil, List.set_cons_succ, List.set_cons_zero, Nat.reduceLT, va_up_eq, va_up_nl, not_true_eq_false, tW_8, eX2_fitsCoin_0, eX2_fitsCoin_1, g0, eX2_fitsCoin_32, eX2_fitsCoin_33, eX2_fitsCoin_34, eX2_fitsCoin_36, eX2_fitsCoin_39, c_within, eX2_fits_11]
      exact fin2 b1
    · simp only [eX2_fits_0, eX2_fits_1, eX2_fits_2, eX2_fits_5, eX2_fits_6, eX2_fits_7, eX2_fits_8, Option.toList_some, Option.toList_none, List.cons_append, List.nil_append, gcat_nil, gcat_cons, cat_int, cat_ref, cat_null, cat_ret, cat_long, grc_ref, narZ0, narZ1, true_and, and_true, decide_true, Nat.reduceAdd, Nat.reduceLeDiff, if_true, if_false, eq_self, gfld_in, gobj_in, garr_in, garq_in, glen_in, gisO_in, ex_some, List.getElem?_cons_succ, List.getElem?_cons_zero, List.length_cons, List.length_nil, List.set_cons_succ, List.set_cons_zero, Nat.reduceLT, va_up_eq, va_up_nl, not_true_eq_false, tW_8, eX2_fitsCoin_0, eX2_fitsCoin_1, g1, eX2_fitsCoin_32, eX2_fitsCoin_33, eX2_fitsCoin_34, eX2_fitsCoin_36, eX2_fitsCoin_39, c_within, eX2_fits_11]
      exact fin2 b1
    · simp only [eX2_fits_0, eX2_fits_1, eX2_fits_2, eX2_fits_5, eX2_fits_6, eX2_fits_7, eX2_fits_8, Option.toList_some, Option.toList_none, List.cons_append, List.nil_append, gcat_nil, gcat_cons, cat_int, cat_ref, cat_null, cat_ret, cat_long, grc_ref, narZ0, narZ1, true_and, and_true, decide_true, Nat.reduceAdd, Nat.reduceLeDiff, if_true, if_false, eq_self, gfld_in, gobj_in, garr_in, garq_in, glen_in, gisO_in, ex_some, List.getElem?_cons_succ, List.getElem?_cons_zero, List.length_cons, List.length_nil, List.set_cons_succ, List.set_cons_zero, Nat.reduceLT, va_up_eq, va_up_nl, not_true_eq_false, tW_8, eX2_fitsCoin_0, eX2_fitsCoin_1, g2, eX2_fitsCoin_40, eX2_fitsCoin_41, eX2_fitsCoin_42, eX2_fitsCoin_43, eX2_fitsCoin_46, c_within, eX2_fits_11]
      exact fin2 b2
    · obtain ⟨n1, n2, n3⟩ := hn (by omega)
      simp only [eX2_fits_0, eX2_fits_1, eX2_fits_2, eX2_fits_5, eX2_fits_6, eX2_fits_7, eX2_fits_8, Option.toList_some, Option.toList_none, List.cons_append, List.nil_append, gcat_nil, gcat_cons, cat_int, cat_ref, cat_null, cat_ret, cat_long, grc_ref, narZ0, narZ1, true_and, and_true, decide_true, Nat.reduceAdd, Nat.reduceLeDiff, if_true, if_false, eq_self, gfld_in, gobj_in, garr_in, garq_in, glen_in, gisO_in, ex_some, List.getElem?_cons_succ, List.getElem?_cons_zero, List.length_cons, List.length_nil, List.set_cons_succ, List.set_cons_zero, Nat.reduceLT, va_up_eq, va_up_nl, not_true_eq_false, tW_8, tW_10, eX2_fitsCoin_0, eX2_fitsCoin_1, g3, eX2_fitsCoin_47, eX2_fitsCoin_48, eX2_fitsCoin_51, eX2_fitsCoin_52, eX2_fitsCoin_53, eX2_fitsCoin_54, eX2_fitsCoin_57, v1, y1, n1, c_wearFits, eX2_fits_11]
      refine fin2 ?_
      have hlt : (nI v < nI (vs 1)) ↔ v < vs 1 := by
        constructor
        · intro z
          by_cases h : v < vs 1
          · exact h
          · exact absurd z (nI_nlt (by omega) (by omega))
        · intro z; exact nI_lt z (by omega)
      rw [b5, hlt]
      have ep : pbd 4 vs 3 = (0, if vs 1 ≤ 9 then vs 1 - 1 else 9) := rfl
      rw [ep]
      dsimp only
      by_cases y : vs 1 ≤ 9
      · rw [if_pos y]; omega
      · rw [if_neg y]; omega
    · simp only [eX2_fits_0, eX2_fits_1, eX2_fits_2, eX2_fits_5, eX2_fits_6, eX2_fits_7, eX2_fits_8, Option.toList_some, Option.toList_none, List.cons_append, List.nil_append, gcat_nil, gcat_cons, cat_int, cat_ref, cat_null, cat_ret, cat_long, grc_ref, narZ0, narZ1, true_and, and_true, decide_true, Nat.reduceAdd, Nat.reduceLeDiff, if_true, if_false, eq_self, gfld_in, gobj_in, garr_in, garq_in, glen_in, gisO_in, ex_some, List.getElem?_cons_succ, List.getElem?_cons_zero, List.length_cons, List.length_nil, List.set_cons_succ, List.set_cons_zero, Nat.reduceLT, va_up_eq, va_up_nl, not_true_eq_false, tW_8, eX2_fitsCoin_0, eX2_fitsCoin_1, g4, eX2_fitsCoin_58, eX2_fitsCoin_59, eX2_fitsCoin_60, eX2_fitsCoin_62, eX2_fitsCoin_65, c_within, eX2_fits_11]
      exact fin2 b3
  · have e : tCi 8 = 4 := rfl
    have h3 : ¬ (4 : Int32) = 3 := by decide
    rw [e]
    simp only [eX2_fits_0, eX2_fits_1, eX2_fits_2, eX2_fits_12, eX2_fits_13, eX2_fits_14, eX2_fits_17, eX2_fits_18, eX2_fits_19, eX2_fits_21, eX2_fits_24, Option.toList_some, Option.toList_none, List.cons_append, List.nil_append, gcat_nil, gcat_cons, cat_int, cat_ref, cat_null, cat_ret, cat_long, grc_ref, narZ0, narZ1, true_and, and_true, decide_true, Nat.reduceAdd, Nat.reduceLeDiff, if_true, if_false, eq_self, gfld_in, gobj_in, garr_in, garq_in, glen_in, gisO_in, ex_some, List.getElem?_cons_succ, List.getElem?_cons_zero, List.length_cons, List.length_nil, List.set_cons_succ, List.set_cons_zero, Nat.reduceLT, va_up_eq, va_up_nl, h3, not_true_eq_false, not_false_eq_true, c_within]
    exact fin b1
  · exact test 5 _ (by omega) (by omega) (by decide) (by decide) (by decide) (by have : pln 5 = 2 := rfl; omega)
  · exact test 6 _ (by omega) (by omega) (by decide) (by decide) (by decide) (by have : pln 6 = 2 := rfl; omega)
  · exact test 7 _ (by omega) (by omega) (by decide) (by decide) (by decide) (by have : pln 7 = 2 := rfl; omega)
end TF
