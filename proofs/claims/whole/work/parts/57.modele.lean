/-! THE MODEL: orders -/
def nfi (a : Nat → Nat) : Nat → Option Nat
  | 0 => none
  | m + 1 => if a m ≤ a (m + 1) then some m else nfi a m
def nfj (a : Nat → Nat) (v : Nat) : Nat → Nat
  | 0 => 0
  | j + 1 => if v ≤ a (j + 1) then j + 1 else nfj a v j
def nsw (a : Nat → Nat) (i j : Nat) : Nat → Nat := fun p => if p = j then a i else if p = i then a j else a p
def nrv (i L : Nat) : Nat → Nat → (Nat → Nat) → Nat → Nat
  | _, 0, a => a
  | k, D + 1, a => if L - k ≤ i + k then a else nrv i L (k + 1) D (nsw a (i + k) (L - k))
/-- the next order, its place i known -/
def nord (a : Nat → Nat) (L i : Nat) : Nat → Nat := nrv i L 1 6 (nsw a i (nfj a (a i) (L - 1)))
def gat (al : Nat → Int32) (a : Nat → Nat) (L : Nat) : Prop := ∀ p, p < L → al p = nI (a p) ∧ a p < 6
theorem gat_sw {al : Nat → Int32} {a : Nat → Nat} {L i j : Nat} (h : gat al a L) (hi : i < L) (hj : j < L) : gat (upd (upd al i (al j)) j (al i)) (nsw a i j) L := by
  intro p hp
  unfold nsw upd
  by_cases q : p = j
  · rw [if_pos q, if_pos q]; exact h i hi
  · rw [if_neg q, if_neg q]
    by_cases q2 : p = i
    · rw [if_pos q2, if_pos q2]; exact h j hj
    · rw [if_neg q2, if_neg q2]; exact h p hp
theorem nfi_lt {a : Nat → Nat} : ∀ {m i : Nat}, nfi a m = some i → i < m := by
  intro m
  induction m with
  | zero => intro i h; cases h
  | succ m ih =>
    intro i h
    rw [nfi] at h
    by_cases q : a m ≤ a (m + 1)
    · rw [if_pos q] at h; cases h; omega
    · rw [if_neg q] at h; have := ih h; omega
theorem nfj_ge {a : Nat → Nat} {i : Nat} : ∀ {j : Nat}, i ≤ j → i ≤ nfj a (a i) j ∧ nfj a (a i) j ≤ j := by
  intro j
  induction j with
  | zero => intro h; rw [nfj]; omega
  | succ j ih =>
    intro h
    rw [nfj]
    by_cases q : a i ≤ a (j + 1)
    · rw [if_pos q]; omega
    · rw [if_neg q]
      have : i ≠ j + 1 := fun z => q (by rw [← z]; exact Nat.le_refl _)
      have := ih (by omega)
      omega
section ME
variable {X : gX} {n k : Nat} {w : gH} {Q : Option Value → Nat → Nat → gH → Prop} {o : Nat} {nw rd ps im ik tx fa al be fo io : Nat → Int32} {de le pz tk ta va se it ln fz fb fm : Int32} {K N d L : Nat} {We : Nat → Nat} {a : Nat → Nat}
theorem c6_swap {i j : Nat} (hi : i < 6) (hj : j < 6) : gEv (gT X) 168 0 [.ref o, .int (nI i), .int (nI j), .null] [] n k (mW w o nw rd ps de im ik tx le pz tk ta va fa se it al ln fz fb be fo fm io) Q ↔ Q none n k (mW w o nw rd ps de im ik tx le pz tk ta va fa se it (upd (upd al i (al j)) j (al i)) ln fz fb be fo fm io) := by
  have v1 : vp_in (nI i) 6 := vp_in_nI hi (by omega)
  have v2 : vp_in (nI j) 6 := vp_in_nI hj (by omega)
  simp only [eX6_swap_0, eX6_swap_1, eX6_swap_4, eX6_swap_5, eX6_swap_6, eX6_swap_6b, eX6_swap_6c, eX6_swap_6d, eX6_swap_7, eX6_swap_8, eX6_swap_11, eX6_swap_12, eX6_swap_13, eX6_swap_16, eX6_swap_17, eX6_swap_18, eX6_swap_19, eX6_swap_20, eX6_swap_23, eX6_swap_24, eX6_swap_25, eX6_swap_26, Option.toList_some, Option.toList_none, List.cons_append, List.nil_append, gcat_nil, gcat_cons, cat_int, cat_ref, cat_null, cat_ret, cat_long, grc_ref, narZ0, narZ1, true_and, and_true, decide_true, Nat.reduceAdd, Nat.reduceLeDiff, if_true, if_false, eq_self, gfld_in, gobj_in, garr_in, garq_in, glen_in, gisO_in, ex_some, List.getElem?_cons_succ, List.getElem?_cons_zero, List.length_cons, List.length_nil, List.set_cons_succ, List.set_cons_zero, Nat.reduceLT, va_up_eq, va_up_nl, mW_0, mW_8, v1, v2, nI_clamp (show i < 2 ^ 31 by omega), nI_clamp (show j < 2 ^ 31 by omega), mW_p8]
theorem c6_nextOrder (hL : L ≤ 6) (ha : gat al a L) (hq0 : nfi a (L - 1) = none → Q (some (.int 0)) n k (mW w o nw rd ps de im ik tx le pz tk ta va fa se it al (nI L) fz fb be fo fm io)) (hq1 : ∀ i al, nfi a (L - 1) = some i → gat al (nord a L i) L → Q (some (.int 1)) n k (mW w o nw rd ps de im ik tx le pz tk ta va fa se it al (nI L) fz fb be fo fm io)) : gEv (gT X) 169 0 [.ref o, .null, .null, .null] [] n k (mW w o nw rd ps de im ik tx le pz tk ta va fa se it al (nI L) fz fb be fo fm io) Q := by
  have third : ∀ (i : Nat) (v2 : Int32), i < L → (∀ al, gat al (nord a L i) L → Q (some (.int 1)) n k (mW w o nw rd ps de im ik tx le pz tk ta va fa se it al (nI L) fz fb be fo fm io)) → ∀ (D k' : Nat) (b : Nat → Nat) (al : Nat → Int32), 1 ≤ k' → k' + D = 7 → k' ≤ L → gat al b L → nrv i L k' D b = nord a L i → gEv (gT X) 169 76 [.ref o, .int (nI i), .int v2, .int (nI k')] [] n k (mW w o nw rd ps de im ik tx le pz tk ta va fa se it al (nI L) fz fb be fo fm io) Q := by
    intro i v2 hi hq D
    induction D with
    | zero => intro k' b al h1 h2 h3; omega
    | succ D ih =>
      intro k' b al h1 h2 h3 hb he
      have e1 : nI i + nI k' = nI (i + k') := nI_add _ _
      have e2 : nI L - nI k' = nI (L - k') := by
        rw [show L = L - k' + k' by omega, ← nI_add]
        simp
      rw [nrv] at he
      rw [eX6_nextOrder_76]
      by_cases q : L - k' ≤ i + k'
      · rw [if_pos q] at he
        have hc : nI (L - k') ≤ nI (i + k') := nI_le q (by omega)
        simp only [eX6_nextOrder_77, eX6_nextOrder_78, eX6_nextOrder_79, eX6_nextOrder_80, eX6_nextOrder_83, eX6_nextOrder_84, eX6_nextOrder_85, eX6_nextOrder_107, eX6_nextOrder_108, Option.toList_some, Option.toList_none, List.cons_append, List.nil_append, gcat_nil, gcat_cons, cat_int, cat_ref, cat_null, cat_ret, cat_long, grc_ref, narZ0, narZ1, true_and, and_true, decide_true, Nat.reduceAdd, Nat.reduceLeDiff, if_true, if_false, eq_self, gfld_in, gobj_in, garr_in, garq_in, glen_in, gisO_in, ex_some, List.getElem?_cons_succ, List.getElem?_cons_zero, List.length_cons, List.length_nil, List.set_cons_succ, List.set_cons_zero, Nat.reduceLT, va_up_eq, va_up_nl, mW_0, e1, e2, hc]
        exact hq al (he ▸ hb)
      · rw [if_neg q] at he
        have hc : ¬ nI (L - k') ≤ nI (i + k') := nI_ge (by omega) (by omega)
        simp only [eX6_nextOrder_77, eX6_nextOrder_78, eX6_nextOrder_79, eX6_nextOrder_80, eX6_nextOrder_83, eX6_nextOrder_84, eX6_nextOrder_85, eX6_nextOrder_88, eX6_nextOrder_89, eX6_nextOrder_90, eX6_nextOrder_91, eX6_nextOrder_92, eX6_nextOrder_93, eX6_nextOrder_96, eX6_nextOrder_97, eX6_nextOrder_98, eX6_nextOrder_101, eX6_nextOrder_101b, eX6_nextOrder_101c, eX6_nextOrder_101d, eX6_nextOrder_104, Option.toList_some, Option.toList_none, List.cons_append, List.nil_append, gcat_nil, gcat_cons, cat_int, cat_ref, cat_null, cat_ret, cat_long, grc_ref, narZ0, narZ1, true_and, and_true, decide_true, Nat.reduceAdd, Nat.reduceLeDiff, if_true, if_false, eq_self, gfld_in, gobj_in, garr_in, garq_in, glen_in, gisO_in, ex_some, List.getElem?_cons_succ, List.getElem?_cons_zero, List.length_cons, List.length_nil, List.set_cons_succ, List.set_cons_zero, Nat.reduceLT, va_up_eq, va_up_nl, mW_0, e1, e2, hc, c6_swap (show i + k' < 6 by omega) (show L - k' < 6 by omega), nI_1]
        exact ih (k' + 1) _ _ (by omega) (by omega) (by omega) (gat_sw hb (by omega) (by omega)) he
  have second : ∀ (i : Nat), i + 1 < L → (∀ al, gat al (nord a L i) L → Q (some (.int 1)) n k (mW w o nw rd ps de im ik tx le pz tk ta va fa se it al (nI L) fz fb be fo fm io)) → ∀ (j : Nat), i ≤ j → j < L → nfj a (a i) (L - 1) = nfj a (a i) j → ∀ v3 : Value, gEv (gT X) 169 47 [.ref o, .int (nI i), .int (nI j), v3] [] n k (mW w o nw rd ps de im ik tx le pz tk ta va fa se it al (nI L) fz fb be fo fm io) Q := by
    intro i hi hq j
    have vi : vp_in (nI i) 6 := vp_in_nI (by omega) (by omega)
    have hai := ha i (by omega)
    induction j with
    | zero =>
      intro h1 h2 h3 v3
      have hi0 : i = 0 := by omega
      subst hi0
      have hc : nI (a 0) ≤ nI (a 0) := nI_le (Nat.le_refl _) (by omega)
      have h00 : nI 0 = (0 : Int32) := nI_0
      have y0 : (0 : Int32).toNatClampNeg = 0 := by decide
      rw [nfj] at h3
      have e0 := third 0 0 (by omega) hq 6 1 (nsw a 0 0) (upd (upd al 0 (al 0)) 0 (al 0)) (by omega) (by omega) (by omega) (gat_sw ha (by omega) (by omega)) (by unfold nord; rw [h3])
      have sw := @c6_swap X n k w (fun v n' k' w' => gEv (gT X) 169 74 [.ref o, .int (nI 0), .int (nI 0), v3] (v.toList ++ []) n' k' w' Q) o nw rd ps im ik tx fa al be fo io de le pz tk ta va se it (nI L) fz fb fm 0 0 (by omega) (by omega)
      rw [eX6_nextOrder_47]
      simp only [h00] at e0 sw vi ⊢
      simp only [eX6_nextOrder_48, eX6_nextOrder_51, eX6_nextOrder_52, eX6_nextOrder_53, eX6_nextOrder_54, eX6_nextOrder_57, eX6_nextOrder_58, eX6_nextOrder_59, eX6_nextOrder_68, eX6_nextOrder_69, eX6_nextOrder_70, eX6_nextOrder_71, Option.toList_some, Option.toList_none, List.cons_append, List.nil_append, gcat_nil, gcat_cons, cat_int, cat_ref, cat_null, cat_ret, cat_long, grc_ref, narZ0, narZ1, true_and, and_true, decide_true, Nat.reduceAdd, Nat.reduceLeDiff, if_true, if_false, eq_self, gfld_in, gobj_in, garr_in, garq_in, glen_in, gisO_in, ex_some, List.getElem?_cons_succ, List.getElem?_cons_zero, List.length_cons, List.length_nil, List.set_cons_succ, List.set_cons_zero, Nat.reduceLT, va_up_eq, va_up_nl, mW_0, mW_8, vi, y0, hai.1, hc, sw]
      simp only [eX6_nextOrder_74, eX6_nextOrder_75, eX6_nextOrder_75b, eX6_nextOrder_75c, eX6_nextOrder_75d, Option.toList_some, Option.toList_none, List.cons_append, List.nil_append, gcat_nil, gcat_cons, cat_int, cat_ref, cat_null, cat_ret, cat_long, grc_ref, narZ0, narZ1, true_and, and_true, decide_true, Nat.reduceAdd, Nat.reduceLeDiff, if_true, if_false, eq_self, gfld_in, gobj_in, garr_in, garq_in, glen_in, gisO_in, ex_some, List.getElem?_cons_succ, List.getElem?_cons_zero, List.length_cons, List.length_nil, List.set_cons_succ, List.set_cons_zero, Nat.reduceLT, va_up_eq, va_up_nl]
      rw [← hai.1]
      exact e0
    | succ j ih =>
      intro h1 h2 h3 v3
      have vj : vp_in (nI (j + 1)) 6 := vp_in_nI (by omega) (by omega)
      have haj := ha (j + 1) (by omega)
      rw [nfj] at h3
      rw [eX6_nextOrder_47]
      by_cases q : a i ≤ a (j + 1)
      · rw [if_pos q] at h3
        have hc : nI (a i) ≤ nI (a (j + 1)) := nI_le q (by omega)
        simp only [eX6_nextOrder_48, eX6_nextOrder_51, eX6_nextOrder_52, eX6_nextOrder_53, eX6_nextOrder_54, eX6_nextOrder_57, eX6_nextOrder_58, eX6_nextOrder_59, eX6_nextOrder_68, eX6_nextOrder_69, eX6_nextOrder_70, eX6_nextOrder_71, eX6_nextOrder_74, eX6_nextOrder_75, eX6_nextOrder_75b, eX6_nextOrder_75c, eX6_nextOrder_75d, Option.toList_some, Option.toList_none, List.cons_append, List.nil_append, gcat_nil, gcat_cons, cat_int, cat_ref, cat_null, cat_ret, cat_long, grc_ref, narZ0, narZ1, true_and, and_true, decide_true, Nat.reduceAdd, Nat.reduceLeDiff, if_true, if_false, eq_self, gfld_in, gobj_in, garr_in, garq_in, glen_in, gisO_in, ex_some, List.getElem?_cons_succ, List.getElem?_cons_zero, List.length_cons, List.length_nil, List.set_cons_succ, List.set_cons_zero, Nat.reduceLT, va_up_eq, va_up_nl, mW_0, mW_8, vi, vj, nI_clamp (show i < 2 ^ 31 by omega), nI_clamp (show j + 1 < 2 ^ 31 by omega), hai.1, haj.1, hc, c6_swap (show i < 6 by omega) (show j + 1 < 6 by omega)]
        rw [← hai.1, ← haj.1]
        exact third i _ (by omega) hq 6 1 (nsw a i (j + 1)) _ (by omega) (by omega) (by omega) (gat_sw ha (by omega) (by omega)) (by unfold nord; rw [h3])
      · rw [if_neg q] at h3
        have hc : ¬ nI (a i) ≤ nI (a (j + 1)) := nI_ge (by omega) (by omega)
        have hij : i ≠ j + 1 := fun z => q (by rw [← z]; exact Nat.le_refl _)
        simp only [eX6_nextOrder_48, eX6_nextOrder_51, eX6_nextOrder_52, eX6_nextOrder_53, eX6_nextOrder_54, eX6_nextOrder_57, eX6_nextOrder_58, eX6_nextOrder_59, eX6_nextOrder_62, eX6_nextOrder_62b, eX6_nextOrder_62c, eX6_nextOrder_62d, eX6_nextOrder_65, Option.toList_some, Option.toList_none, List.cons_append, List.nil_append, gcat_nil, gcat_cons, cat_int, cat_ref, cat_null, cat_ret, cat_long, grc_ref, narZ0, narZ1, true_and, and_true, decide_true, Nat.reduceAdd, Nat.reduceLeDiff, if_true, if_false, eq_self, gfld_in, gobj_in, garr_in, garq_in, glen_in, gisO_in, ex_some, List.getElem?_cons_succ, List.getElem?_cons_zero, List.length_cons, List.length_nil, List.set_cons_succ, List.set_cons_zero, Nat.reduceLT, va_up_eq, va_up_nl, mW_0, mW_8, vi, vj, nI_clamp (show i < 2 ^ 31 by omega), nI_clamp (show j + 1 < 2 ^ 31 by omega), hai.1, haj.1, hc, pk_m1]
        exact ih (by omega) (by omega) h3 v3
  have first : ∀ (m : Nat), m ≤ L - 1 → nfi a (L - 1) = nfi a m → gEv (gT X) 169 7 [.ref o, .int (nI m - 1), .null, .null] [] n k (mW w o nw rd ps de im ik tx le pz tk ta va fa se it al (nI L) fz fb be fo fm io) Q := by
    intro m
    induction m with
    | zero =>
      intro h1 h2
      have e : nI 0 - 1 = -1 := by decide
      have c1 : (-1 : Int32) < 0 := by decide
      have c2 : ¬ 0 ≤ (-1 : Int32) := by decide
      rw [eX6_nextOrder_7]
      simp only [eX6_nextOrder_8, eX6_nextOrder_34, eX6_nextOrder_35, eX6_nextOrder_38, eX6_nextOrder_39, Option.toList_some, Option.toList_none, List.cons_append, List.nil_append, gcat_nil, gcat_cons, cat_int, cat_ref, cat_null, cat_ret, cat_long, grc_ref, narZ0, narZ1, true_and, and_true, decide_true, Nat.reduceAdd, Nat.reduceLeDiff, if_true, if_false, eq_self, gfld_in, gobj_in, garr_in, garq_in, glen_in, gisO_in, ex_some, List.getElem?_cons_succ, List.getElem?_cons_zero, List.length_cons, List.length_nil, List.set_cons_succ, List.set_cons_zero, Nat.reduceLT, va_up_eq, va_up_nl, e, c1, c2]
      exact hq0 h2
    | succ m ih =>
      intro h1 h2
      have c1 : ¬ nI m < 0 := nI_pos (by omega)
      have c2 : 0 ≤ nI m := nI_pos' (by omega)
      have v1 : vp_in (nI m) 6 := vp_in_nI (by omega) (by omega)
      have v2 : vp_in (nI (m + 1)) 6 := vp_in_nI (by omega) (by omega)
      have ha1 := ha m (by omega)
      have ha2 := ha (m + 1) (by omega)
      rw [nfi] at h2
      rw [eX6_nextOrder_7]
      by_cases q : a m ≤ a (m + 1)
      · rw [if_pos q] at h2
        have hc : nI (a m) ≤ nI (a (m + 1)) := nI_le q (by omega)
        have e3 : nI L - 1 = nI (L - 1) := by rw [show L = L - 1 + 1 by omega, nI_pred]; rfl
        simp only [eX6_nextOrder_8, eX6_nextOrder_11, eX6_nextOrder_12, eX6_nextOrder_15, eX6_nextOrder_16, eX6_nextOrder_17, eX6_nextOrder_18, eX6_nextOrder_21, eX6_nextOrder_22, eX6_nextOrder_23, eX6_nextOrder_24, eX6_nextOrder_25, eX6_nextOrder_34, eX6_nextOrder_35, eX6_nextOrder_40, eX6_nextOrder_41, eX6_nextOrder_44, eX6_nextOrder_45, eX6_nextOrder_46, eX6_nextOrder_46b, eX6_nextOrder_46c, eX6_nextOrder_46d, Option.toList_some, Option.toList_none, List.cons_append, List.nil_append, gcat_nil, gcat_cons, cat_int, cat_ref, cat_null, cat_ret, cat_long, grc_ref, narZ0, narZ1, true_and, and_true, decide_true, Nat.reduceAdd, Nat.reduceLeDiff, if_true, if_false, eq_self, gfld_in, gobj_in, garr_in, garq_in, glen_in, gisO_in, ex_some, List.getElem?_cons_succ, List.getElem?_cons_zero, List.length_cons, List.length_nil, List.set_cons_succ, List.set_cons_zero, Nat.reduceLT, va_up_eq, va_up_nl, nI_pred, c1, c2, mW_0, mW_8, v1, v2, nI_1, nI_clamp (show m < 2 ^ 31 by omega), nI_clamp (show m + 1 < 2 ^ 31 by omega), ha1.1, ha2.1, hc, e3]
        exact second m (by omega) (fun al h => hq1 m al h2 h) (L - 1) (by omega) (by omega) rfl _
      · rw [if_neg q] at h2
        have hc : ¬ nI (a m) ≤ nI (a (m + 1)) := nI_ge (by omega) (by omega)
        have e4 : nI m + -1 = nI m - 1 := (Int32.sub_eq_add_neg _ _).symm
        simp only [eX6_nextOrder_8, eX6_nextOrder_11, eX6_nextOrder_12, eX6_nextOrder_15, eX6_nextOrder_16, eX6_nextOrder_17, eX6_nextOrder_18, eX6_nextOrder_21, eX6_nextOrder_22, eX6_nextOrder_23, eX6_nextOrder_24, eX6_nextOrder_25, eX6_nextOrder_28, eX6_nextOrder_28b, eX6_nextOrder_28c, eX6_nextOrder_28d, eX6_nextOrder_31, Option.toList_some, Option.toList_none, List.cons_append, List.nil_append, gcat_nil, gcat_cons, cat_int, cat_ref, cat_null, cat_ret, cat_long, grc_ref, narZ0, narZ1, true_and, and_true, decide_true, Nat.reduceAdd, Nat.reduceLeDiff, if_true, if_false, eq_self, gfld_in, gobj_in, garr_in, garq_in, glen_in, gisO_in, ex_some, List.getElem?_cons_succ, List.getElem?_cons_zero, List.length_cons, List.length_nil, List.set_cons_succ, List.set_cons_zero, Nat.reduceLT, va_up_eq, va_up_nl, nI_pred, c1, c2, mW_0, mW_8, v1, v2, nI_1, nI_clamp (show m < 2 ^ 31 by omega), nI_clamp (show m + 1 < 2 ^ 31 by omega), ha1.1, ha2.1, hc, e4]
        exact ih (by omega) h2
  simp only [eX6_nextOrder_0, eX6_nextOrder_1, eX6_nextOrder_4, eX6_nextOrder_5, eX6_nextOrder_6, eX6_nextOrder_6b, eX6_nextOrder_6c, eX6_nextOrder_6d, Option.toList_some, Option.toList_none, List.cons_append, List.nil_append, gcat_nil, gcat_cons, cat_int, cat_ref, cat_null, cat_ret, cat_long, grc_ref, narZ0, narZ1, true_and, and_true, decide_true, Nat.reduceAdd, Nat.reduceLeDiff, if_true, if_false, eq_self, gfld_in, gobj_in, garr_in, garq_in, glen_in, gisO_in, ex_some, List.getElem?_cons_succ, List.getElem?_cons_zero, List.length_cons, List.length_nil, List.set_cons_succ, List.set_cons_zero, Nat.reduceLT, va_up_eq, va_up_nl, mW_0]
  by_cases q : L = 0
  · subst q
    have e : nI 0 - 2 = -2 := by decide
    have c1 : (-2 : Int32) < 0 := by decide
    have c2 : ¬ 0 ≤ (-2 : Int32) := by decide
    rw [eX6_nextOrder_7]
    simp only [eX6_nextOrder_8, eX6_nextOrder_34, eX6_nextOrder_35, eX6_nextOrder_38, eX6_nextOrder_39, Option.toList_some, Option.toList_none, List.cons_append, List.nil_append, gcat_nil, gcat_cons, cat_int, cat_ref, cat_null, cat_ret, cat_long, grc_ref, narZ0, narZ1, true_and, and_true, decide_true, Nat.reduceAdd, Nat.reduceLeDiff, if_true, if_false, eq_self, gfld_in, gobj_in, garr_in, garq_in, glen_in, gisO_in, ex_some, List.getElem?_cons_succ, List.getElem?_cons_zero, List.length_cons, List.length_nil, List.set_cons_succ, List.set_cons_zero, Nat.reduceLT, va_up_eq, va_up_nl, e, c1, c2]
    exact hq0 rfl
  · have e : nI L - 2 = nI (L - 1) - 1 := by
      have : L = 1 ∨ L = 2 ∨ L = 3 ∨ L = 4 ∨ L = 5 ∨ L = 6 := by omega
      rcases this with rfl | rfl | rfl | rfl | rfl | rfl <;> decide
    rw [e]
    exact first (L - 1) (Nat.le_refl _) rfl
end ME
