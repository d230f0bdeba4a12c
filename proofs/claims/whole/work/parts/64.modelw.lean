/-! THE MODEL: the text -/
def pal (tv : Nat → Nat) (l : Nat) : Nat → Nat → Nat → Nat → Nat ⊕ List (Nat × (Nat → Nat))
  | 0, _, _, _ => .inl 0
  | F + 1, K, N, p => if tK tv l (tSk tv l p) = 0 then .inr [] else match pit tv l K N (tK tv l (tSk tv l p)) (tSk tv l p) (tEn tv l (tSk tv l p)) with
    | .inl f => .inl f
    | .inr (vs, e) => if tK tv l (tSk tv l e) = 1 then (match pal tv l F (pK (tK tv l (tSk tv l p)) K) (pN (tK tv l (tSk tv l p)) N) (tEn tv l (tSk tv l e)) with
      | .inl f => .inl f
      | .inr r => .inr ((tK tv l (tSk tv l p), vs) :: r)) else .inl (tSk tv l e)
def mpa : List (Nat × (Nat → Nat)) → Nat → Nat → (Nat → Int32) → Nat → Int32
  | [], _, _, rd => rd
  | (q, vs) :: r, K, N, rd => mpa r (pK q K) (pN q N) (mput rd q K N vs)
section MW
variable {X : gX} {n k : Nat} {w : gH} {Q : Option Value → Nat → Nat → gH → Prop} {o : Nat} {nw rd ps im ik tx fa al be fo io : Nat → Int32} {de le pz tk ta va se it ln fz fb fm : Int32} {l p c : Nat} {tv : Nat → Nat}
theorem c6_readTest (ht : gtx tx tv l) (hp : p ≤ l) {K N s so : Nat} (hso : so < 3) (hN : N ≤ 6) (h31 : rd 31 = nI N) (hb : ∀ f, pit tv l K N (so + 5) s p = .inl f → ∀ rd pz tk va, Q (some (.int 0)) n k (mW w o nw rd ps de im ik tx (nI l) pz tk (nI f) va fa se it al ln fz fb be fo fm io)) (ho : ∀ vs e, pit tv l K N (so + 5) s p = .inr (vs, e) → ∀ tk ta va, Q (some (.int 1)) n k (mW w o nw (mput rd (so + 5) K N vs) ps de im ik tx (nI l) (nI e) tk ta va fa se it al ln fz fb be fo fm io)) : gEv (gT X) 128 0 [.ref o, .int (nI so), .null] [] n k (mW w o nw rd ps de im ik tx (nI l) (nI p) tk (nI s) va fa se it al ln fz fb be fo fm io) Q := by
  have v31 : vp_in 31 59 := vp_in_nI (n := 31) (by omega) (by omega)
  have y31 : (31 : Int32).toNatClampNeg = 31 := by decide
  have h10 : ¬ (1 : Int32) = 0 := by decide
  unfold pit at hb ho
  by_cases q0 : N = 6
  · have hc : nI N = 6 := by rw [q0]; rfl
    rw [if_pos (Or.inr (Or.inr ⟨by omega, by omega, q0⟩))] at hb
    simp only [eX6_readTest_0, eX6_readTest_2, eX6_readTest_3, eX6_readTest_4, eX6_readTest_7, eX6_readTest_9, eX6_readTest_10, eX6_readTest_11, eX6_readTest_12, eX6_readTest_12b, eX6_readTest_12c, eX6_readTest_12d, eX6_readTest_13, eX6_readTest_14, eX6_readTest_17, eX6_readTest_19, eX6_readTest_20, eX6_readTest_22, eX6_readTest_56, eX6_readTest_57, Option.toList_some, Option.toList_none, List.cons_append, List.nil_append, gcat_nil, gcat_cons, cat_int, cat_ref, cat_null, cat_ret, cat_long, grc_ref, narZ0, narZ1, true_and, and_true, decide_true, Nat.reduceAdd, Nat.reduceLeDiff, if_true, if_false, eq_self, gfld_in, gobj_in, garr_in, garq_in, glen_in, gisO_in, ex_some, List.getElem?_cons_succ, List.getElem?_cons_zero, List.length_cons, List.length_nil, List.set_cons_succ, List.set_cons_zero, Nat.reduceLT, va_up_eq, va_up_nl, mW_0, mW_2, v31, y31, h31, hc]
    exact hb s rfl _ _ _ _
  · have hc : ¬ nI N = 6 := fun z => q0 ((nI_eq (b := 6) (by omega) (by omega)).mp z)
    have hno : ¬ pno K N (so + 5) := by
      intro z
      rcases z with z | z | z
      · omega
      · omega
      · exact q0 z.2.2
    rw [if_neg hno] at hb ho
    have s0 := tSk_le tv hp
    have p1 := tEn_le tv s0.2
    generalize es0 : tSk tv l p = s0' at *
    have s1 := tSk_le tv p1.2
    have p2 := tEn_le tv s1.2
    have r0 : prd tv l (so + 5) (pln (so + 5)) 0 (fun _ => 0) p = if tOk tv l s0' (if so = 2 then 0 else 1) (if so = 2 then 2 else 99) then prd tv l (so + 5) 1 1 (upn (fun _ => 0) 0 (tN tv l s0')) (tEn tv l s0') else .inl s0' := by
      rw [← es0]
      have : so = 0 ∨ so = 1 ∨ so = 2 := by omega
      rcases this with rfl | rfl | rfl <;> rfl
    rw [r0] at hb ho
    have elo : (if nI so = 2 then (0 : Int32) else 1) = nI (if so = 2 then 0 else 1) := by
      have : so = 0 ∨ so = 1 ∨ so = 2 := by omega
      rcases this with rfl | rfl | rfl <;> decide
    have ehi : (if nI so = 2 then (2 : Int32) else 99) = nI (if so = 2 then 2 else 99) := by
      have : so = 0 ∨ so = 1 ∨ so = 2 := by omega
      rcases this with rfl | rfl | rfl <;> decide
    have hlo : (if so = 2 then 0 else 1) < 256 := by split <;> omega
    have hhi : (if so = 2 then 2 else 99) < 256 := by split <;> omega
    simp only [eX6_readTest_0, eX6_readTest_2, eX6_readTest_3, eX6_readTest_4, eX6_readTest_7, eX6_readTest_9, eX6_readTest_10, eX6_readTest_11, eX6_readTest_12, eX6_readTest_12b, eX6_readTest_12c, eX6_readTest_12d, eX6_readTest_13, eX6_readTest_14, eX6_readTest_17, eX6_readTest_19, eX6_readTest_20, eX6_readTest_22, eX6_readTest_25, eX6_readTest_26, eX6_readTest_27, eX6_readTest_28, eX6_readTest_29, eX6_readTest_30, eX6_readTest_33, eX6_readTest_34, eX6_readTest_37, Option.toList_some, Option.toList_none, List.cons_append, List.nil_append, gcat_nil, gcat_cons, cat_int, cat_ref, cat_null, cat_ret, cat_long, grc_ref, narZ0, narZ1, true_and, and_true, decide_true, Nat.reduceAdd, Nat.reduceLeDiff, if_true, if_false, eq_self, gfld_in, gobj_in, garr_in, garq_in, glen_in, gisO_in, ex_some, List.getElem?_cons_succ, List.getElem?_cons_zero, List.length_cons, List.length_nil, List.set_cons_succ, List.set_cons_zero, Nat.reduceLT, va_up_eq, va_up_nl, mW_0, mW_2, v31, y31, h31, hc, m32, nI_1, c6_leastOf, c6_mostOf, elo, ehi, c6_readNumber ht hp (show 3 * N + 32 + 1 < 59 by omega) hlo hhi, es0]
    by_cases q1 : tOk tv l s0' (if so = 2 then 0 else 1) (if so = 2 then 2 else 99)
    · rw [if_pos q1] at hb ho ⊢
      generalize es1 : tSk tv l (tEn tv l s0') = s1' at *
      have r1 : prd tv l (so + 5) 1 1 (upn (fun _ => 0) 0 (tN tv l s0')) (tEn tv l s0') = if tOk tv l s1' 1 9 then .inr (upn (upn (fun _ => 0) 0 (tN tv l s0')) 1 (tN tv l s1'), tEn tv l s1') else .inl s1' := by
        rw [← es1]
        have : so = 0 ∨ so = 1 ∨ so = 2 := by omega
        rcases this with rfl | rfl | rfl <;> rfl
      rw [r1] at hb ho
      simp only [eX6_readTest_40, eX6_readTest_43, eX6_readTest_44, eX6_readTest_45, eX6_readTest_46, eX6_readTest_47, eX6_readTest_48, eX6_readTest_50, Option.toList_some, Option.toList_none, List.cons_append, List.nil_append, gcat_nil, gcat_cons, cat_int, cat_ref, cat_null, cat_ret, cat_long, grc_ref, narZ0, narZ1, true_and, and_true, decide_true, Nat.reduceAdd, Nat.reduceLeDiff, if_true, if_false, eq_self, gfld_in, gobj_in, garr_in, garq_in, glen_in, gisO_in, ex_some, List.getElem?_cons_succ, List.getElem?_cons_zero, List.length_cons, List.length_nil, List.set_cons_succ, List.set_cons_zero, Nat.reduceLT, va_up_eq, va_up_nl, mW_0, h10, nIp2, rn_1_9 ht p1.2 (show 3 * N + 32 + 2 < 59 by omega), es1]
      by_cases q2 : tOk tv l s1' 1 9
      · rw [if_pos q2] at hb ho ⊢
        have vr : vp_in (nI (3 * N + 32)) 59 := vp_in_nI (by omega) (by omega)
        have e0 : upd (upd (upd rd (3 * N + 32 + 1) (nI (tN tv l s0'))) (3 * N + 32 + 2) (nI (tN tv l s1'))) (3 * N + 32) (nI so) 31 = nI N := by rw [upd_ne' (by omega), upd_ne' (by omega), upd_ne' (by omega), h31]
        simp only [eX6_readTest_53, eX6_readTest_58, eX6_readTest_59, eX6_readTest_62, eX6_readTest_63, eX6_readTest_64, eX6_readTest_65, eX6_readTest_66, eX6_readTest_69, eX6_readTest_71, eX6_readTest_72, eX6_readTest_73, eX6_readTest_74, eX6_readTest_75, eX6_readTest_76, eX6_readTest_77, Option.toList_some, Option.toList_none, List.cons_append, List.nil_append, gcat_nil, gcat_cons, cat_int, cat_ref, cat_null, cat_ret, cat_long, grc_ref, narZ0, narZ1, true_and, and_true, decide_true, Nat.reduceAdd, Nat.reduceLeDiff, if_true, if_false, eq_self, gfld_in, gobj_in, garr_in, garq_in, glen_in, gisO_in, ex_some, List.getElem?_cons_succ, List.getElem?_cons_zero, List.length_cons, List.length_nil, List.set_cons_succ, List.set_cons_zero, Nat.reduceLT, va_up_eq, va_up_nl, mW_0, mW_2, h10, not_false_eq_true, vr, nI_clamp (show 3 * N + 32 < 2 ^ 31 by omega), v31, y31, mW_p2, e0, nI_1]
        have := ho _ _ rfl (tTok (tK tv l s1')) (nI s1') (tVa (tVa va tv l s0') tv l s1')
        have em : mput rd (so + 5) K N (upn (upn (fun _ => 0) 0 (tN tv l s0')) 1 (tN tv l s1')) = upd (upd (upd (upd rd (3 * N + 32 + 1) (nI (tN tv l s0'))) (3 * N + 32 + 2) (nI (tN tv l s1'))) (3 * N + 32) (nI so)) 31 (nI (N + 1)) := by
          unfold mput
          rw [if_neg (by omega), if_neg (by omega), Nat.add_sub_cancel]
          rfl
        rw [em] at this
        exact this
      · rw [if_neg q2] at hb ho ⊢
        simp only [eX6_readTest_53, eX6_readTest_56, eX6_readTest_57, Option.toList_some, Option.toList_none, List.cons_append, List.nil_append, gcat_nil, gcat_cons, cat_int, cat_ref, cat_null, cat_ret, cat_long, grc_ref, narZ0, narZ1, true_and, and_true, decide_true, Nat.reduceAdd, Nat.reduceLeDiff, if_true, if_false, eq_self, gfld_in, gobj_in, garr_in, garq_in, glen_in, gisO_in, ex_some, List.getElem?_cons_succ, List.getElem?_cons_zero, List.length_cons, List.length_nil, List.set_cons_succ, List.set_cons_zero, Nat.reduceLT, va_up_eq, va_up_nl, not_true_eq_false]
        exact hb _ rfl _ _ _ _
    · rw [if_neg q1] at hb ho ⊢
      simp only [eX6_readTest_40, eX6_readTest_56, eX6_readTest_57, Option.toList_some, Option.toList_none, List.cons_append, List.nil_append, gcat_nil, gcat_cons, cat_int, cat_ref, cat_null, cat_ret, cat_long, grc_ref, narZ0, narZ1, true_and, and_true, decide_true, Nat.reduceAdd, Nat.reduceLeDiff, if_true, if_false, eq_self, gfld_in, gobj_in, garr_in, garq_in, glen_in, gisO_in, ex_some, List.getElem?_cons_succ, List.getElem?_cons_zero, List.length_cons, List.length_nil, List.set_cons_succ, List.set_cons_zero, Nat.reduceLT, va_up_eq, va_up_nl]
      exact hb _ rfl _ _ _ _
theorem c6_readItem (ht : gtx tx tv l) (hp : p ≤ l) {K N s q : Nat} (hq : q < 9) (hK : K ≤ 6) (h0 : rd 0 = nI K) (hN : N ≤ 6) (h31 : rd 31 = nI N) (hb : ∀ f, pit tv l K N q s p = .inl f → ∀ rd pz tk va, Q (some (.int 0)) n k (mW w o nw rd ps de im ik tx (nI l) pz tk (nI f) va fa se it al ln fz fb be fo fm io)) (ho : ∀ vs e, pit tv l K N q s p = .inr (vs, e) → ∀ tk ta va, Q (some (.int 1)) n k (mW w o nw (mput rd q K N vs) ps de im ik tx (nI l) (nI e) tk ta va fa se it al ln fz fb be fo fm io)) : gEv (gT X) 131 0 [.ref o] [] n k (mW w o nw rd ps de im ik tx (nI l) (nI p) (tTok q) (nI s) va fa se it al ln fz fb be fo fm io) Q := by
  have hg : ∀ q, q < 9 → gtab 4 69 1003 [36, 41, 47, 53, 59] (tTok q) = if q = 4 then 40 else if q = 5 then 45 else if q = 6 then 51 else if q = 7 then 57 else if q = 8 then 63 else 73 := by decide +kernel
  have hgq := hg q hq
  simp only [eX6_readItem_0, eX6_readItem_1, eX6_readItem_4, Option.toList_some, Option.toList_none, List.cons_append, List.nil_append, gcat_nil, gcat_cons, cat_int, cat_ref, cat_null, cat_ret, cat_long, grc_ref, narZ0, narZ1, true_and, and_true, decide_true, Nat.reduceAdd, Nat.reduceLeDiff, if_true, if_false, eq_self, gfld_in, gobj_in, garr_in, garq_in, glen_in, gisO_in, ex_some, List.getElem?_cons_succ, List.getElem?_cons_zero, List.length_cons, List.length_nil, List.set_cons_succ, List.set_cons_zero, Nat.reduceLT, va_up_eq, va_up_nl, mW_0, hgq]
  have hc : q < 4 ∨ q = 4 ∨ q = 5 ∨ q = 6 ∨ q = 7 ∨ q = 8 := by omega
  rcases hc with h | rfl | rfl | rfl | rfl | rfl
  · have e1 : (if q = 4 then 40 else if q = 5 then 45 else if q = 6 then 51 else if q = 7 then 57 else if q = 8 then 63 else 73) = 73 := by
      rw [if_neg (by omega), if_neg (by omega), if_neg (by omega), if_neg (by omega), if_neg (by omega)]
    rw [e1]
    simp only [eX6_readItem_73, eX6_readItem_74, Option.toList_some, Option.toList_none, List.cons_append, List.nil_append, gcat_nil, gcat_cons, cat_int, cat_ref, cat_null, cat_ret, cat_long, grc_ref, narZ0, narZ1, true_and, and_true, decide_true, Nat.reduceAdd, Nat.reduceLeDiff, if_true, if_false, eq_self, gfld_in, gobj_in, garr_in, garq_in, glen_in, gisO_in, ex_some, List.getElem?_cons_succ, List.getElem?_cons_zero, List.length_cons, List.length_nil, List.set_cons_succ, List.set_cons_zero, Nat.reduceLT, va_up_eq, va_up_nl]
    refine hb s ?_ _ _ _ _
    unfold pit
    rw [if_pos (Or.inl h)]
  · simp only [if_true, eX6_readItem_40, eX6_readItem_41, Option.toList_some, Option.toList_none, List.cons_append, List.nil_append, gcat_nil, gcat_cons, cat_int, cat_ref, cat_null, cat_ret, cat_long, grc_ref, narZ0, narZ1, true_and, and_true, decide_true, Nat.reduceAdd, Nat.reduceLeDiff, if_true, if_false, eq_self, gfld_in, gobj_in, garr_in, garq_in, glen_in, gisO_in, ex_some, List.getElem?_cons_succ, List.getElem?_cons_zero, List.length_cons, List.length_nil, List.set_cons_succ, List.set_cons_zero, Nat.reduceLT, va_up_eq, va_up_nl, mW_0]
    refine c6_readCoin (N := N) ht hp hK h0 ?_ ?_
    · intro f hf rd pz tk va
      simp only [eX6_readItem_44, Option.toList_some, Option.toList_none, List.cons_append, List.nil_append, gcat_nil, gcat_cons, cat_int, cat_ref, cat_null, cat_ret, cat_long, grc_ref, narZ0, narZ1, true_and, and_true, decide_true, Nat.reduceAdd, Nat.reduceLeDiff, if_true, if_false, eq_self, gfld_in, gobj_in, garr_in, garq_in, glen_in, gisO_in, ex_some, List.getElem?_cons_succ, List.getElem?_cons_zero, List.length_cons, List.length_nil, List.set_cons_succ, List.set_cons_zero, Nat.reduceLT, va_up_eq, va_up_nl]
      exact hb f hf _ _ _ _
    · intro vs e hf tk ta va
      simp only [eX6_readItem_44, Option.toList_some, Option.toList_none, List.cons_append, List.nil_append, gcat_nil, gcat_cons, cat_int, cat_ref, cat_null, cat_ret, cat_long, grc_ref, narZ0, narZ1, true_and, and_true, decide_true, Nat.reduceAdd, Nat.reduceLeDiff, if_true, if_false, eq_self, gfld_in, gobj_in, garr_in, garq_in, glen_in, gisO_in, ex_some, List.getElem?_cons_succ, List.getElem?_cons_zero, List.length_cons, List.length_nil, List.set_cons_succ, List.set_cons_zero, Nat.reduceLT, va_up_eq, va_up_nl]
      exact ho vs e hf _ _ _
  · rw [show (if (5 : Nat) = 4 then 40 else if 5 = 5 then 45 else if 5 = 6 then 51 else if 5 = 7 then 57 else if 5 = 8 then 63 else 73) = 45 from rfl]
    simp only [eX6_readItem_45, eX6_readItem_46, eX6_readItem_47, Option.toList_some, Option.toList_none, List.cons_append, List.nil_append, gcat_nil, gcat_cons, cat_int, cat_ref, cat_null, cat_ret, cat_long, grc_ref, narZ0, narZ1, true_and, and_true, decide_true, Nat.reduceAdd, Nat.reduceLeDiff, if_true, if_false, eq_self, gfld_in, gobj_in, garr_in, garq_in, glen_in, gisO_in, ex_some, List.getElem?_cons_succ, List.getElem?_cons_zero, List.length_cons, List.length_nil, List.set_cons_succ, List.set_cons_zero, Nat.reduceLT, va_up_eq, va_up_nl, mW_0]
    refine c6_readTest (K := K) (so := 0) ht hp (by omega) hN h31 ?_ ?_
    · intro f hf rd pz tk va
      simp only [eX6_readItem_50, Option.toList_some, Option.toList_none, List.cons_append, List.nil_append, gcat_nil, gcat_cons, cat_int, cat_ref, cat_null, cat_ret, cat_long, grc_ref, narZ0, narZ1, true_and, and_true, decide_true, Nat.reduceAdd, Nat.reduceLeDiff, if_true, if_false, eq_self, gfld_in, gobj_in, garr_in, garq_in, glen_in, gisO_in, ex_some, List.getElem?_cons_succ, List.getElem?_cons_zero, List.length_cons, List.length_nil, List.set_cons_succ, List.set_cons_zero, Nat.reduceLT, va_up_eq, va_up_nl]
      exact hb f hf _ _ _ _
    · intro vs e hf tk ta va
      simp only [eX6_readItem_50, Option.toList_some, Option.toList_none, List.cons_append, List.nil_append, gcat_nil, gcat_cons, cat_int, cat_ref, cat_null, cat_ret, cat_long, grc_ref, narZ0, narZ1, true_and, and_true, decide_true, Nat.reduceAdd, Nat.reduceLeDiff, if_true, if_false, eq_self, gfld_in, gobj_in, garr_in, garq_in, glen_in, gisO_in, ex_some, List.getElem?_cons_succ, List.getElem?_cons_zero, List.length_cons, List.length_nil, List.set_cons_succ, List.set_cons_zero, Nat.reduceLT, va_up_eq, va_up_nl]
      exact ho vs e hf _ _ _
  · rw [show (if (6 : Nat) = 4 then 40 else if 6 = 5 then 45 else if 6 = 6 then 51 else if 6 = 7 then 57 else if 6 = 8 then 63 else 73) = 51 from rfl]
    simp only [eX6_readItem_51, eX6_readItem_52, eX6_readItem_53, Option.toList_some, Option.toList_none, List.cons_append, List.nil_append, gcat_nil, gcat_cons, cat_int, cat_ref, cat_null, cat_ret, cat_long, grc_ref, narZ0, narZ1, true_and, and_true, decide_true, Nat.reduceAdd, Nat.reduceLeDiff, if_true, if_false, eq_self, gfld_in, gobj_in, garr_in, garq_in, glen_in, gisO_in, ex_some, List.getElem?_cons_succ, List.getElem?_cons_zero, List.length_cons, List.length_nil, List.set_cons_succ, List.set_cons_zero, Nat.reduceLT, va_up_eq, va_up_nl, mW_0]
    refine c6_readTest (K := K) (so := 1) ht hp (by omega) hN h31 ?_ ?_
    · intro f hf rd pz tk va
      simp only [eX6_readItem_56, Option.toList_some, Option.toList_none, List.cons_append, List.nil_append, gcat_nil, gcat_cons, cat_int, cat_ref, cat_null, cat_ret, cat_long, grc_ref, narZ0, narZ1, true_and, and_true, decide_true, Nat.reduceAdd, Nat.reduceLeDiff, if_true, if_false, eq_self, gfld_in, gobj_in, garr_in, garq_in, glen_in, gisO_in, ex_some, List.getElem?_cons_succ, List.getElem?_cons_zero, List.length_cons, List.length_nil, List.set_cons_succ, List.set_cons_zero, Nat.reduceLT, va_up_eq, va_up_nl]
      exact hb f hf _ _ _ _
    · intro vs e hf tk ta va
      simp only [eX6_readItem_56, Option.toList_some, Option.toList_none, List.cons_append, List.nil_append, gcat_nil, gcat_cons, cat_int, cat_ref, cat_null, cat_ret, cat_long, grc_ref, narZ0, narZ1, true_and, and_true, decide_true, Nat.reduceAdd, Nat.reduceLeDiff, if_true, if_false, eq_self, gfld_in, gobj_in, garr_in, garq_in, glen_in, gisO_in, ex_some, List.getElem?_cons_succ, List.getElem?_cons_zero, List.length_cons, List.length_nil, List.set_cons_succ, List.set_cons_zero, Nat.reduceLT, va_up_eq, va_up_nl]
      exact ho vs e hf _ _ _
  · rw [show (if (7 : Nat) = 4 then 40 else if 7 = 5 then 45 else if 7 = 6 then 51 else if 7 = 7 then 57 else if 7 = 8 then 63 else 73) = 57 from rfl]
    simp only [eX6_readItem_57, eX6_readItem_58, eX6_readItem_59, Option.toList_some, Option.toList_none, List.cons_append, List.nil_append, gcat_nil, gcat_cons, cat_int, cat_ref, cat_null, cat_ret, cat_long, grc_ref, narZ0, narZ1, true_and, and_true, decide_true, Nat.reduceAdd, Nat.reduceLeDiff, if_true, if_false, eq_self, gfld_in, gobj_in, garr_in, garq_in, glen_in, gisO_in, ex_some, List.getElem?_cons_succ, List.getElem?_cons_zero, List.length_cons, List.length_nil, List.set_cons_succ, List.set_cons_zero, Nat.reduceLT, va_up_eq, va_up_nl, mW_0]
    refine c6_readTest (K := K) (so := 2) ht hp (by omega) hN h31 ?_ ?_
    · intro f hf rd pz tk va
      simp only [eX6_readItem_62, Option.toList_some, Option.toList_none, List.cons_append, List.nil_append, gcat_nil, gcat_cons, cat_int, cat_ref, cat_null, cat_ret, cat_long, grc_ref, narZ0, narZ1, true_and, and_true, decide_true, Nat.reduceAdd, Nat.reduceLeDiff, if_true, if_false, eq_self, gfld_in, gobj_in, garr_in, garq_in, glen_in, gisO_in, ex_some, List.getElem?_cons_succ, List.getElem?_cons_zero, List.length_cons, List.length_nil, List.set_cons_succ, List.set_cons_zero, Nat.reduceLT, va_up_eq, va_up_nl]
      exact hb f hf _ _ _ _
    · intro vs e hf tk ta va
      simp only [eX6_readItem_62, Option.toList_some, Option.toList_none, List.cons_append, List.nil_append, gcat_nil, gcat_cons, cat_int, cat_ref, cat_null, cat_ret, cat_long, grc_ref, narZ0, narZ1, true_and, and_true, decide_true, Nat.reduceAdd, Nat.reduceLeDiff, if_true, if_false, eq_self, gfld_in, gobj_in, garr_in, garq_in, glen_in, gisO_in, ex_some, List.getElem?_cons_succ, List.getElem?_cons_zero, List.length_cons, List.length_nil, List.set_cons_succ, List.set_cons_zero, Nat.reduceLT, va_up_eq, va_up_nl]
      exact ho vs e hf _ _ _
  · rw [show (if (8 : Nat) = 4 then 40 else if 8 = 5 then 45 else if 8 = 6 then 51 else if 8 = 7 then 57 else if 8 = 8 then 63 else 73) = 63 from rfl]
    have hno : ¬ pno K N 8 := by
      intro z
      rcases z with z | z | z <;> omega
    have f50 : ∀ {Q : Option Value → Nat → Nat → gH → Prop}, gEv (gT X) 126 0 [.ref o, .int 50, .int 1, .int 99, .null] [] n k (mW w o nw rd ps de im ik tx (nI l) (nI p) (tTok 8) (nI s) va fa se it al ln fz fb be fo fm io) Q ↔ (if tOk tv l (tSk tv l p) 1 99 then Q (some (.int 1)) n k (mW w o nw (upd rd 50 (nI (tN tv l (tSk tv l p)))) ps de im ik tx (nI l) (nI (tEn tv l (tSk tv l p))) (tTok (tK tv l (tSk tv l p))) (nI (tSk tv l p)) (tVa va tv l (tSk tv l p)) fa se it al ln fz fb be fo fm io) else Q (some (.int 0)) n k (mW w o nw rd ps de im ik tx (nI l) (nI (tEn tv l (tSk tv l p))) (tTok (tK tv l (tSk tv l p))) (nI (tSk tv l p)) (tVa va tv l (tSk tv l p)) fa se it al ln fz fb be fo fm io)) := rn_1_99 (c := 50) ht hp (by omega)
    unfold pit at hb ho
    rw [if_neg hno] at hb ho
    have r0 : prd tv l 8 (pln 8) 0 (fun _ => 0) p = if tOk tv l (tSk tv l p) 1 99 then .inr (upn (fun _ => 0) 0 (tN tv l (tSk tv l p)), tEn tv l (tSk tv l p)) else .inl (tSk tv l p) := rfl
    rw [r0] at hb ho
    simp only [eX6_readItem_63, eX6_readItem_64, eX6_readItem_66, eX6_readItem_67, eX6_readItem_69, Option.toList_some, Option.toList_none, List.cons_append, List.nil_append, gcat_nil, gcat_cons, cat_int, cat_ref, cat_null, cat_ret, cat_long, grc_ref, narZ0, narZ1, true_and, and_true, decide_true, Nat.reduceAdd, Nat.reduceLeDiff, if_true, if_false, eq_self, gfld_in, gobj_in, garr_in, garq_in, glen_in, gisO_in, ex_some, List.getElem?_cons_succ, List.getElem?_cons_zero, List.length_cons, List.length_nil, List.set_cons_succ, List.set_cons_zero, Nat.reduceLT, va_up_eq, va_up_nl, mW_0, f50]
    by_cases q1 : tOk tv l (tSk tv l p) 1 99
    · rw [if_pos q1] at ho ⊢
      simp only [eX6_readItem_72, Option.toList_some, Option.toList_none, List.cons_append, List.nil_append, gcat_nil, gcat_cons, cat_int, cat_ref, cat_null, cat_ret, cat_long, grc_ref, narZ0, narZ1, true_and, and_true, decide_true, Nat.reduceAdd, Nat.reduceLeDiff, if_true, if_false, eq_self, gfld_in, gobj_in, garr_in, garq_in, glen_in, gisO_in, ex_some, List.getElem?_cons_succ, List.getElem?_cons_zero, List.length_cons, List.length_nil, List.set_cons_succ, List.set_cons_zero, Nat.reduceLT, va_up_eq, va_up_nl]
      exact ho _ _ rfl _ _ _
    · rw [if_neg q1] at hb ⊢
      simp only [eX6_readItem_72, Option.toList_some, Option.toList_none, List.cons_append, List.nil_append, gcat_nil, gcat_cons, cat_int, cat_ref, cat_null, cat_ret, cat_long, grc_ref, narZ0, narZ1, true_and, and_true, decide_true, Nat.reduceAdd, Nat.reduceLeDiff, if_true, if_false, eq_self, gfld_in, gobj_in, garr_in, garq_in, glen_in, gisO_in, ex_some, List.getElem?_cons_succ, List.getElem?_cons_zero, List.length_cons, List.length_nil, List.set_cons_succ, List.set_cons_zero, Nat.reduceLT, va_up_eq, va_up_nl]
      exact hb _ rfl _ _ _ _
theorem c6_readText (ht : gtx tx tv l) (hb : ∀ f, pal tv l (l + 1) 0 0 0 = .inl f → ∀ rd pz tk ta va it, f ≤ l → Q (some (.int (nI f))) n k (mW w o nw rd ps de im ik tx (nI l) pz tk ta va fa se it al ln fz fb be fo fm io)) (ho : ∀ r, pal tv l (l + 1) 0 0 0 = .inr r → ∀ pz tk ta va, Q (some (.int (-9))) n k (mW w o nw (mpa r 0 0 (mbegin rd)) ps de im ik tx (nI l) pz tk ta va fa se (nI r.length) al ln fz fb be fo fm io)) : gEv (gT X) 132 0 [.ref o] [] n k (mW w o nw rd ps de im ik tx (nI l) pz tk ta va fa se it al ln fz fb be fo fm io) Q := by
  have hl := ht.1
  have loop : ∀ (F K N p i : Nat) (rd : Nat → Int32) (va : Int32), p ≤ l → l + 1 ≤ F + p → K ≤ 6 → N ≤ 6 → rd 0 = nI K → rd 31 = nI N → (∀ f, pal tv l F K N p = .inl f → ∀ rd pz tk ta va it, f ≤ l → Q (some (.int (nI f))) n k (mW w o nw rd ps de im ik tx (nI l) pz tk ta va fa se it al ln fz fb be fo fm io)) → (∀ r, pal tv l F K N p = .inr r → ∀ pz tk ta va, Q (some (.int (-9))) n k (mW w o nw (mpa r K N rd) ps de im ik tx (nI l) pz tk ta va fa se (nI (i + r.length)) al ln fz fb be fo fm io)) → gEv (gT X) 132 18 [.ref o] [] n k (mW w o nw rd ps de im ik tx (nI l) (nI (tEn tv l (tSk tv l p))) (tTok (tK tv l (tSk tv l p))) (nI (tSk tv l p)) va fa se (nI i) al ln fz fb be fo fm io) Q := by
    intro F
    induction F with
    | zero => intro K N p i rd va h1 h2; omega
    | succ F ih =>
      intro K N p i rd va hp hF hK hN h0 h31 hb ho
      have hs := tSk_le tv hp
      have he := tEn_le tv hs.2
      have hkl := tK_le tv l (tSk tv l p)
      have hk0 : (tTok (tK tv l (tSk tv l p)) = 1000) ↔ tK tv l (tSk tv l p) = 0 := tTok_inj _ (by omega) 0 (by omega)
      rw [pal] at hb ho
      rw [eX6_readText_18]
      simp only [eX6_readText_19, eX6_readText_22, eX6_readText_25, Option.toList_some, Option.toList_none, List.cons_append, List.nil_append, gcat_nil, gcat_cons, cat_int, cat_ref, cat_null, cat_ret, cat_long, grc_ref, narZ0, narZ1, true_and, and_true, decide_true, Nat.reduceAdd, Nat.reduceLeDiff, if_true, if_false, eq_self, gfld_in, gobj_in, garr_in, garq_in, glen_in, gisO_in, ex_some, List.getElem?_cons_succ, List.getElem?_cons_zero, List.length_cons, List.length_nil, List.set_cons_succ, List.set_cons_zero, Nat.reduceLT, va_up_eq, va_up_nl, mW_0, hk0]
      by_cases q : tK tv l (tSk tv l p) = 0
      · rw [if_pos q] at ho ⊢
        simp only [eX6_readText_75, eX6_readText_77, Option.toList_some, Option.toList_none, List.cons_append, List.nil_append, gcat_nil, gcat_cons, cat_int, cat_ref, cat_null, cat_ret, cat_long, grc_ref, narZ0, narZ1, true_and, and_true, decide_true, Nat.reduceAdd, Nat.reduceLeDiff, if_true, if_false, eq_self, gfld_in, gobj_in, garr_in, garq_in, glen_in, gisO_in, ex_some, List.getElem?_cons_succ, List.getElem?_cons_zero, List.length_cons, List.length_nil, List.set_cons_succ, List.set_cons_zero, Nat.reduceLT, va_up_eq, va_up_nl]
        exact ho [] rfl _ _ _ _
      · rw [if_neg q] at hb ho ⊢
        have hsl : tSk tv l p < l := by
          by_cases z : l ≤ tSk tv l p
          · exact absurd ((tK_0 tv).mpr z) q
          · omega
        have hlt := tEn_lt tv hsl
        simp only [eX6_readText_28, eX6_readText_29, Option.toList_some, Option.toList_none, List.cons_append, List.nil_append, gcat_nil, gcat_cons, cat_int, cat_ref, cat_null, cat_ret, cat_long, grc_ref, narZ0, narZ1, true_and, and_true, decide_true, Nat.reduceAdd, Nat.reduceLeDiff, if_true, if_false, eq_self, gfld_in, gobj_in, garr_in, garq_in, glen_in, gisO_in, ex_some, List.getElem?_cons_succ, List.getElem?_cons_zero, List.length_cons, List.length_nil, List.set_cons_succ, List.set_cons_zero, Nat.reduceLT, va_up_eq, va_up_nl, mW_0]
        refine c6_readItem ht he.2 (by omega) hK h0 hN h31 ?_ ?_
        · intro f hf rd pz tk va
          rw [hf] at hb
          have hfl : f ≤ l := by
            unfold pit at hf
            by_cases z : pno K N (tK tv l (tSk tv l p))
            · rw [if_pos z] at hf; cases hf; exact hs.2
            · rw [if_neg z] at hf; exact prd_inl _ _ _ _ _ _ _ _ he.2 hf
          simp only [eX6_readText_32, eX6_readText_35, eX6_readText_36, eX6_readText_39, Option.toList_some, Option.toList_none, List.cons_append, List.nil_append, gcat_nil, gcat_cons, cat_int, cat_ref, cat_null, cat_ret, cat_long, grc_ref, narZ0, narZ1, true_and, and_true, decide_true, Nat.reduceAdd, Nat.reduceLeDiff, if_true, if_false, eq_self, gfld_in, gobj_in, garr_in, garq_in, glen_in, gisO_in, ex_some, List.getElem?_cons_succ, List.getElem?_cons_zero, List.length_cons, List.length_nil, List.set_cons_succ, List.set_cons_zero, Nat.reduceLT, va_up_eq, va_up_nl, mW_0, not_true_eq_false]
          exact hb f rfl _ _ _ _ _ _ hfl
        · intro vs e hf tk ta va
          rw [hf] at hb ho
          have h10 : ¬ (1 : Int32) = 0 := by decide
          have hno : ¬ pno K N (tK tv l (tSk tv l p)) := by
            intro z
            unfold pit at hf
            rw [if_pos z] at hf; cases hf
          have hel : tEn tv l (tSk tv l p) ≤ e ∧ e ≤ l := by
            unfold pit at hf
            rw [if_neg hno] at hf
            exact prd_le _ _ _ _ _ _ _ _ _ he.2 hf
          have hs2 := tSk_le tv hel.2
          have he2 := tEn_le tv hs2.2
          have hk2 := tK_le tv l (tSk tv l e)
          have hk1 : (tTok (tK tv l (tSk tv l e)) = 59) ↔ tK tv l (tSk tv l e) = 1 := tTok_inj _ (by omega) 1 (by omega)
          simp only [eX6_readText_32, eX6_readText_40, eX6_readText_41, eX6_readText_44, eX6_readText_45, eX6_readText_48, eX6_readText_50, Option.toList_some, Option.toList_none, List.cons_append, List.nil_append, gcat_nil, gcat_cons, cat_int, cat_ref, cat_null, cat_ret, cat_long, grc_ref, narZ0, narZ1, true_and, and_true, decide_true, Nat.reduceAdd, Nat.reduceLeDiff, if_true, if_false, eq_self, gfld_in, gobj_in, garr_in, garq_in, glen_in, gisO_in, ex_some, List.getElem?_cons_succ, List.getElem?_cons_zero, List.length_cons, List.length_nil, List.set_cons_succ, List.set_cons_zero, Nat.reduceLT, va_up_eq, va_up_nl, mW_0, h10, not_false_eq_true, c6_next ht hel.2, hk1]
          dsimp only at hb ho
          by_cases q2 : tK tv l (tSk tv l e) = 1
          · rw [if_pos q2] at hb ho ⊢
            simp only [eX6_readText_58, eX6_readText_59, eX6_readText_59b, eX6_readText_60, eX6_readText_63, eX6_readText_64, eX6_readText_65, eX6_readText_68, eX6_readText_69, Option.toList_some, Option.toList_none, List.cons_append, List.nil_append, gcat_nil, gcat_cons, cat_int, cat_ref, cat_null, cat_ret, cat_long, grc_ref, narZ0, narZ1, true_and, and_true, decide_true, Nat.reduceAdd, Nat.reduceLeDiff, if_true, if_false, eq_self, gfld_in, gobj_in, garr_in, garq_in, glen_in, gisO_in, ex_some, List.getElem?_cons_succ, List.getElem?_cons_zero, List.length_cons, List.length_nil, List.set_cons_succ, List.set_cons_zero, Nat.reduceLT, va_up_eq, va_up_nl, mW_0, mW_p0, nI_1, c6_next ht he2.2]
            simp only [eX6_readText_72, Option.toList_some, Option.toList_none, List.cons_append, List.nil_append, gcat_nil, gcat_cons, cat_int, cat_ref, cat_null, cat_ret, cat_long, grc_ref, narZ0, narZ1, true_and, and_true, decide_true, Nat.reduceAdd, Nat.reduceLeDiff, if_true, if_false, eq_self, gfld_in, gobj_in, garr_in, garq_in, glen_in, gisO_in, ex_some, List.getElem?_cons_succ, List.getElem?_cons_zero, List.length_cons, List.length_nil, List.set_cons_succ, List.set_cons_zero, Nat.reduceLT, va_up_eq, va_up_nl]
            refine ih (pK (tK tv l (tSk tv l p)) K) (pN (tK tv l (tSk tv l p)) N) (tEn tv l (tSk tv l e)) (i + 1) _ _ he2.2 (by omega) ?_ ?_ ?_ ?_ ?_ ?_
            · unfold pK
              by_cases z : tK tv l (tSk tv l p) = 4
              · rw [if_pos z]
                have : ¬ K = 6 := fun y => hno (Or.inr (Or.inl ⟨z, y⟩))
                omega
              · rw [if_neg z]; exact hK
            · unfold pN
              by_cases z : 5 ≤ tK tv l (tSk tv l p) ∧ tK tv l (tSk tv l p) ≤ 7
              · rw [if_pos z]
                have : ¬ N = 6 := fun y => hno (Or.inr (Or.inr ⟨z.1, z.2, y⟩))
                omega
              · rw [if_neg z]; exact hN
            · unfold mput pK
              by_cases z : tK tv l (tSk tv l p) = 4
              · rw [if_pos z, if_pos z, upd_eq']
              · rw [if_neg z, if_neg z]
                by_cases z2 : tK tv l (tSk tv l p) = 8
                · rw [if_pos z2, upd_ne' (by omega), h0]
                · rw [if_neg z2, upd_ne' (by omega), upd_ne' (by omega), upd_ne' (by omega), upd_ne' (by omega), h0]
            · unfold mput pN
              have hq4 : 4 ≤ tK tv l (tSk tv l p) := by
                by_cases y : tK tv l (tSk tv l p) < 4
                · exact absurd (Or.inl y) hno
                · omega
              have hK6 : tK tv l (tSk tv l p) = 4 → K < 6 := by
                intro z
                have : ¬ K = 6 := fun y => hno (Or.inr (Or.inl ⟨z, y⟩))
                omega
              by_cases z : tK tv l (tSk tv l p) = 4
              · have := hK6 z
                rw [if_pos z, if_neg (by omega), upd_ne' (by omega), upd_ne' (by omega), upd_ne' (by omega), upd_ne' (by omega), upd_ne' (by omega), upd_ne' (by omega), h31]
              · rw [if_neg z]
                by_cases z2 : tK tv l (tSk tv l p) = 8
                · rw [if_pos z2, if_neg (by omega), upd_ne' (by omega), h31]
                · rw [if_neg z2, if_pos (by omega), upd_eq']
            · intro f hf rd pz tk ta va it hfl
              rw [hf] at hb
              exact hb f rfl _ _ _ _ _ _ hfl
            · intro r hr pz tk ta va
              rw [hr] at ho
              have := ho _ rfl pz tk ta va
              rw [mpa, List.length_cons] at this
              rw [show i + 1 + r.length = i + (r.length + 1) by omega]
              exact this
          · rw [if_neg q2] at hb ⊢
            simp only [eX6_readText_53, eX6_readText_54, eX6_readText_57, Option.toList_some, Option.toList_none, List.cons_append, List.nil_append, gcat_nil, gcat_cons, cat_int, cat_ref, cat_null, cat_ret, cat_long, grc_ref, narZ0, narZ1, true_and, and_true, decide_true, Nat.reduceAdd, Nat.reduceLeDiff, if_true, if_false, eq_self, gfld_in, gobj_in, garr_in, garq_in, glen_in, gisO_in, ex_some, List.getElem?_cons_succ, List.getElem?_cons_zero, List.length_cons, List.length_nil, List.set_cons_succ, List.set_cons_zero, Nat.reduceLT, va_up_eq, va_up_nl, mW_0]
            exact hb _ rfl _ _ _ _ _ _ hs2.2
  have n0 : ∀ {rd : Nat → Int32} {tk ta va it : Int32} {Q : Option Value → Nat → Nat → gH → Prop}, gEv (gT X) 125 0 [.ref o] [] n k (mW w o nw rd ps de im ik tx (nI l) 0 tk ta va fa se it al ln fz fb be fo fm io) Q ↔ Q none n k (mW w o nw rd ps de im ik tx (nI l) (nI (tEn tv l (tSk tv l 0))) (tTok (tK tv l (tSk tv l 0))) (nI (tSk tv l 0)) (tVa va tv l (tSk tv l 0)) fa se it al ln fz fb be fo fm io) := c6_next (p := 0) ht (by omega)
  simp only [eX6_readText_0, eX6_readText_1, eX6_readText_4, eX6_readText_5, eX6_readText_6, eX6_readText_9, eX6_readText_10, eX6_readText_11, eX6_readText_14, eX6_readText_15, Option.toList_some, Option.toList_none, List.cons_append, List.nil_append, gcat_nil, gcat_cons, cat_int, cat_ref, cat_null, cat_ret, cat_long, grc_ref, narZ0, narZ1, true_and, and_true, decide_true, Nat.reduceAdd, Nat.reduceLeDiff, if_true, if_false, eq_self, gfld_in, gobj_in, garr_in, garq_in, glen_in, gisO_in, ex_some, List.getElem?_cons_succ, List.getElem?_cons_zero, List.length_cons, List.length_nil, List.set_cons_succ, List.set_cons_zero, Nat.reduceLT, va_up_eq, va_up_nl, mW_0, c6_beginRead, mW_p0, n0]
  have h0 : mbegin rd 0 = nI 0 := by
    unfold mbegin
    rw [upd_ne' (by omega), upd_ne' (by omega), mrng_in (by omega) (by omega)]
    rfl
  have h31 : mbegin rd 31 = nI 0 := by
    unfold mbegin
    rw [upd_ne' (by omega), upd_ne' (by omega), mrng_in (by omega) (by omega)]
    rfl
  refine loop (l + 1) 0 0 0 0 (mbegin rd) _ (by omega) (by omega) (by omega) (by omega) h0 h31 hb ?_
  intro r hr pz tk ta va
  rw [Nat.zero_add]
  exact ho r hr pz tk ta va
theorem c6_tells (ht : gtx tx tv l) {d : Nat} (hd : d ≤ 6) (hb : ∀ f, pal tv l (l + 1) 0 0 0 = .inl f → ∀ rd pz tk ta va it, Q (some (.int (-10 - nI f))) n k (mW w o nw rd ps (nI d) im ik tx (nI l) pz tk ta va fa se it al ln fz fb be fo fm io)) (ho : ∀ r, pal tv l (l + 1) 0 0 0 = .inr r → ∀ rd' pz tk ta va it, Q (some (.int (nI r.length))) n k (mW w o (mrng 0 59 (mpa r 0 0 (mbegin rd)) nw) rd' (mnote nw ps d) (nI (if d = 6 then 6 else d + 1)) im ik tx 0 pz tk ta va fa se it al ln fz fb be fo fm io)) : gEv (gT X) 135 0 [.ref o, .null] [] n k (mW w o nw rd ps (nI d) im ik tx (nI l) pz tk ta va fa se it al ln fz fb be fo fm io) Q := by
  simp only [eX6_tells_0, eX6_tells_1, Option.toList_some, Option.toList_none, List.cons_append, List.nil_append, gcat_nil, gcat_cons, cat_int, cat_ref, cat_null, cat_ret, cat_long, grc_ref, narZ0, narZ1, true_and, and_true, decide_true, Nat.reduceAdd, Nat.reduceLeDiff, if_true, if_false, eq_self, gfld_in, gobj_in, garr_in, garq_in, glen_in, gisO_in, ex_some, List.getElem?_cons_succ, List.getElem?_cons_zero, List.length_cons, List.length_nil, List.set_cons_succ, List.set_cons_zero, Nat.reduceLT, va_up_eq, va_up_nl, mW_0]
  have hl := ht.1
  refine c6_readText ht ?_ ?_
  · intro f hf rd pz tk ta va it hfl
    have hne : ¬ nI f = -9 := fun z => by
      have h1 := congrArg Int32.toInt z
      rw [nI_toInt (by omega)] at h1
      have h2 : (-9 : Int32).toInt = -9 := by decide
      omega
    simp only [eX6_tells_4, eX6_tells_4b, eX6_tells_4c, eX6_tells_4d, eX6_tells_5, eX6_tells_6, eX6_tells_8, eX6_tells_11, eX6_tells_13, eX6_tells_14, eX6_tells_15, Option.toList_some, Option.toList_none, List.cons_append, List.nil_append, gcat_nil, gcat_cons, cat_int, cat_ref, cat_null, cat_ret, cat_long, grc_ref, narZ0, narZ1, true_and, and_true, decide_true, Nat.reduceAdd, Nat.reduceLeDiff, if_true, if_false, eq_self, gfld_in, gobj_in, garr_in, garq_in, glen_in, gisO_in, ex_some, List.getElem?_cons_succ, List.getElem?_cons_zero, List.length_cons, List.length_nil, List.set_cons_succ, List.set_cons_zero, Nat.reduceLT, va_up_eq, va_up_nl, hne]
    exact hb f hf _ _ _ _ _ _
  · intro r hr pz tk ta va
    have hbr : ∀ {ps : Nat → Int32} {de : Int32} {Q : Option Value → Nat → Nat → gH → Prop}, gEv (gT X) 119 0 [.ref (o + 2), .int 0, .ref (o + 1), .int 0, .null] [] n k (mW w o nw (mpa r 0 0 (mbegin rd)) ps de im ik tx (nI l) pz tk ta va fa se (nI r.length) al ln fz fb be fo fm io) Q ↔ Q none n k (va_up (mW w o nw (mpa r 0 0 (mbegin rd)) ps de im ik tx (nI l) pz tk ta va fa se (nI r.length) al ln fz fb be fo fm io) (o + 1) (.inl (.int, 59, .inl (mrng 0 (0 + 59) (fun z => mpa r 0 0 (mbegin rd) (0 + (z - 0))) nw)))) := c6_bring (i := 0) (j := 0) mW_2 mW_1 (by omega) (by omega) (by omega) (by omega) (by omega)
    have em : mrng 0 (0 + 59) (fun z => mpa r 0 0 (mbegin rd) (0 + (z - 0))) nw = mrng 0 59 (mpa r 0 0 (mbegin rd)) nw := by
      funext z
      simp only [Nat.zero_add, Nat.sub_zero]
    simp only [eX6_tells_4, eX6_tells_4b, eX6_tells_4c, eX6_tells_4d, eX6_tells_5, eX6_tells_6, eX6_tells_8, eX6_tells_16, eX6_tells_17, eX6_tells_20, eX6_tells_21, eX6_tells_24, eX6_tells_25, eX6_tells_26, eX6_tells_29, eX6_tells_30, eX6_tells_33, eX6_tells_34, eX6_tells_35, eX6_tells_38, eX6_tells_39, eX6_tells_42, Option.toList_some, Option.toList_none, List.cons_append, List.nil_append, gcat_nil, gcat_cons, cat_int, cat_ref, cat_null, cat_ret, cat_long, grc_ref, narZ0, narZ1, true_and, and_true, decide_true, Nat.reduceAdd, Nat.reduceLeDiff, if_true, if_false, eq_self, gfld_in, gobj_in, garr_in, garq_in, glen_in, gisO_in, ex_some, List.getElem?_cons_succ, List.getElem?_cons_zero, List.length_cons, List.length_nil, List.set_cons_succ, List.set_cons_zero, Nat.reduceLT, va_up_eq, va_up_nl, mW_0, c6_note hd, hbr, mW_p1, mW_p0, em]
    exact ho r hr _ _ _ _ _ _
end MW
