/-! THE TELLER: all is read, its items -/
section TH
variable {X : gX} {n k : Nat} {w : gH} {Q : Option Value → Nat → Nat → gH → Prop} {lt nb : Nat → Int32} {tl tt st en : Int32} {l : Nat} {tv : Nat → Nat} {dk dt dc : Nat → Int32} {kc tc rm jm : Int32} {K N : Nat}
theorem pln_le (q : Nat) : pln q ≤ 5 ∧ 1 ≤ pln q := by
  unfold pln
  repeat' split
  all_goals omega
theorem c_readItem (ht : gtx lt tv l) {s : Nat} (hs : s ≤ l) (hK : K ≤ 6) (hN : N ≤ 6) (hb : ∀ f, pit tv l K N (tK tv l s) s (tEn tv l s) = .inl f → ∀ nb tt en, Q (some (.int 0)) n k (tW (sTr w 11 dk dt dc (nI K) (nI N) rm jm) lt nb (nI l) tt (nI f) en)) (hc : ∀ vs e, pit tv l K N (tK tv l s) s (tEn tv l s) = .inr (vs, e) → ¬ tK tv l (tSk tv l e) = 1 → ∀ nb tt en, Q (some (.int 0)) n k (tW (sTr w 11 dk dt dc (nI K) (nI N) rm jm) lt nb (nI l) tt (nI (tSk tv l e)) en)) (ho : ∀ vs e, pit tv l K N (tK tv l s) s (tEn tv l s) = .inr (vs, e) → tK tv l (tSk tv l e) = 1 → ∀ nb tt st, Q (some (.int 1)) n k (tW (sTr w 11 (dpk dk (tK tv l s) K vs) (dpt dt (tK tv l s) N vs) dc (nI (pK (tK tv l s) K)) (nI (pN (tK tv l s) N)) (dpr rm (tK tv l s) vs) jm) lt nb (nI l) tt st (nI (tEn tv l (tSk tv l e))))) : gEv (gT X) 30 0 [.ref 8, .null, .null, .null] [] n k (tW (sTr w 11 dk dt dc (nI K) (nI N) rm jm) lt nb (nI l) (tCk tv l s) (nI s) (nI (tEn tv l s))) Q := by
  have hl := ht.1
  have hk8 := tK_le tv l s
  have he := tEn_le tv hs
  have h10 : ¬ (1 : Int32) = 0 := by decide
  simp only [eX2_readItem_0, eX2_readItem_1, eX2_readItem_4, eX2_readItem_5, Option.toList_some, Option.toList_none, List.cons_append, List.nil_append, gcat_nil, gcat_cons, cat_int, cat_ref, cat_null, cat_ret, cat_long, grc_ref, narZ0, narZ1, true_and, and_true, decide_true, Nat.reduceAdd, Nat.reduceLeDiff, if_true, if_false, eq_self, gfld_in, gobj_in, garr_in, garq_in, glen_in, gisO_in, ex_some, List.getElem?_cons_succ, List.getElem?_cons_zero, List.length_cons, List.length_nil, List.set_cons_succ, List.set_cons_zero, Nat.reduceLT, va_up_eq, va_up_nl, tW_8]
  by_cases qw : s < l ∧ tLet tv s
  · have e1 : tCk tv l s = 1 := tCk_w.mpr qw
    have hw := @c_itemOfWord X n k (sTr w 11 dk dt dc (nI K) (nI N) rm jm) (fun v n' k' w' => gEv (gT X) 30 12 [.ref 8, .null, .null, .null] (v.toList ++ []) n' k' w' Q) lt nb (tCk tv l s) l tv ht s qw.1 qw.2
    rw [e1] at hw ⊢
    simp only [eX2_readItem_8, eX2_readItem_9, Option.toList_some, Option.toList_none, List.cons_append, List.nil_append, gcat_nil, gcat_cons, cat_int, cat_ref, cat_null, cat_ret, cat_long, grc_ref, narZ0, narZ1, true_and, and_true, decide_true, Nat.reduceAdd, Nat.reduceLeDiff, if_true, if_false, eq_self, gfld_in, gobj_in, garr_in, garq_in, glen_in, gisO_in, ex_some, List.getElem?_cons_succ, List.getElem?_cons_zero, List.length_cons, List.length_nil, List.set_cons_succ, List.set_cons_zero, Nat.reduceLT, va_up_eq, va_up_nl, not_true_eq_false, tW_8]
    rw [hw]
    generalize hq : tK tv l s = q at *
    simp only [eX2_readItem_12, eX2_readItem_16, eX2_readItem_16b, eX2_readItem_16c, eX2_readItem_16d, eX2_readItem_17, eX2_readItem_18, eX2_readItem_19, Option.toList_some, Option.toList_none, List.cons_append, List.nil_append, gcat_nil, gcat_cons, cat_int, cat_ref, cat_null, cat_ret, cat_long, grc_ref, narZ0, narZ1, true_and, and_true, decide_true, Nat.reduceAdd, Nat.reduceLeDiff, if_true, if_false, eq_self, gfld_in, gobj_in, garr_in, garq_in, glen_in, gisO_in, ex_some, List.getElem?_cons_succ, List.getElem?_cons_zero, List.length_cons, List.length_nil, List.set_cons_succ, List.set_cons_zero, Nat.reduceLT, va_up_eq, va_up_nl]
    by_cases q3 : q < 4
    · have e5 : tCi q = 5 := by
        unfold tCi
        rw [if_neg (by omega), if_neg (by omega), if_neg (by omega), if_neg (by omega), if_neg (by omega)]
      rw [if_pos e5]
      simp only [eX2_readItem_30, eX2_readItem_31, Option.toList_some, Option.toList_none, List.cons_append, List.nil_append, gcat_nil, gcat_cons, cat_int, cat_ref, cat_null, cat_ret, cat_long, grc_ref, narZ0, narZ1, true_and, and_true, decide_true, Nat.reduceAdd, Nat.reduceLeDiff, if_true, if_false, eq_self, gfld_in, gobj_in, garr_in, garq_in, glen_in, gisO_in, ex_some, List.getElem?_cons_succ, List.getElem?_cons_zero, List.length_cons, List.length_nil, List.set_cons_succ, List.set_cons_zero, Nat.reduceLT, va_up_eq, va_up_nl]
      refine hb s ?_ _ _ _
      unfold pit
      rw [if_pos (Or.inl q3)]
    · have hi5 : ∀ q, q < 9 → ¬ q < 4 → ¬ tCi q = 5 := by decide
      rw [if_neg (hi5 q (by omega) q3)]
      have hpl := pln_le q
      simp only [eX2_readItem_22, eX2_readItem_23, eX2_readItem_24, eX2_readItem_27, Option.toList_some, Option.toList_none, List.cons_append, List.nil_append, gcat_nil, gcat_cons, cat_int, cat_ref, cat_null, cat_ret, cat_long, grc_ref, narZ0, narZ1, true_and, and_true, decide_true, Nat.reduceAdd, Nat.reduceLeDiff, if_true, if_false, eq_self, gfld_in, gobj_in, garr_in, garq_in, glen_in, gisO_in, ex_some, List.getElem?_cons_succ, List.getElem?_cons_zero, List.length_cons, List.length_nil, List.set_cons_succ, List.set_cons_zero, Nat.reduceLT, va_up_eq, va_up_nl, tW_8, c_mayCome (show 4 ≤ q by omega) hk8 hK hN, gb_0]
      by_cases qn : pno K N q
      · rw [if_neg (fun z => z (fun y => y qn))]
        simp only [eX2_readItem_30, eX2_readItem_31, Option.toList_some, Option.toList_none, List.cons_append, List.nil_append, gcat_nil, gcat_cons, cat_int, cat_ref, cat_null, cat_ret, cat_long, grc_ref, narZ0, narZ1, true_and, and_true, decide_true, Nat.reduceAdd, Nat.reduceLeDiff, if_true, if_false, eq_self, gfld_in, gobj_in, garr_in, garq_in, glen_in, gisO_in, ex_some, List.getElem?_cons_succ, List.getElem?_cons_zero, List.length_cons, List.length_nil, List.set_cons_succ, List.set_cons_zero, Nat.reduceLT, va_up_eq, va_up_nl]
        refine hb s ?_ _ _ _
        unfold pit
        rw [if_pos qn]
      · rw [if_pos (fun z => z qn)]
        have epit : pit tv l K N q s (tEn tv l s) = prd tv l q (pln q) 0 (fun _ => 0) (tEn tv l s) := if_neg qn
        rw [epit] at hb hc ho
        have loop : ∀ (D f : Nat) (vs : Nat → Nat) (p : Nat) (nb : Nat → Int32) (tt st : Int32), f + D = pln q → p ≤ l → (∀ z, z < f → nb z = nI (vs z) ∧ vs z < 1000) → (q = 4 → 2 ≤ f → 1 ≤ vs 1) → prd tv l q D f vs p = prd tv l q (pln q) 0 (fun _ => 0) (tEn tv l s) → gEv (gT X) 30 54 [.ref 8, .int (tCi q), .int (nI (pln q)), .int (nI f)] [] n k (tW (sTr w 11 dk dt dc (nI K) (nI N) rm jm) lt nb (nI l) tt st (nI p)) Q := by
          intro D
          induction D with
          | zero =>
            intro f vs p nb tt st hf hp hz h4 hR
            rw [prd] at hR
            have hc1 : nI (pln q) ≤ nI f := nI_le (by omega) (by omega)
            have c3 : (tCk tv l (tSk tv l p) = 3) ↔ tK tv l (tSk tv l p) = 1 := tCk_3
            rw [eX2_readItem_54]
            simp only [eX2_readItem_55, eX2_readItem_56, eX2_readItem_111, eX2_readItem_112, eX2_readItem_115, eX2_readItem_116, eX2_readItem_119, eX2_readItem_120, Option.toList_some, Option.toList_none, List.cons_append, List.nil_append, gcat_nil, gcat_cons, cat_int, cat_ref, cat_null, cat_ret, cat_long, grc_ref, narZ0, narZ1, true_and, and_true, decide_true, Nat.reduceAdd, Nat.reduceLeDiff, if_true, if_false, eq_self, gfld_in, gobj_in, garr_in, garq_in, glen_in, gisO_in, ex_some, List.getElem?_cons_succ, List.getElem?_cons_zero, List.length_cons, List.length_nil, List.set_cons_succ, List.set_cons_zero, Nat.reduceLT, va_up_eq, va_up_nl, hc1, tW_8, c_readToken ht hp, c3]
            by_cases q1 : tK tv l (tSk tv l p) = 1
            · rw [if_pos q1]
              simp only [eX2_readItem_125, eX2_readItem_126, eX2_readItem_127, eX2_readItem_130, eX2_readItem_131, Option.toList_some, Option.toList_none, List.cons_append, List.nil_append, gcat_nil, gcat_cons, cat_int, cat_ref, cat_null, cat_ret, cat_long, grc_ref, narZ0, narZ1, true_and, and_true, decide_true, Nat.reduceAdd, Nat.reduceLeDiff, if_true, if_false, eq_self, gfld_in, gobj_in, garr_in, garq_in, glen_in, gisO_in, ex_some, List.getElem?_cons_succ, List.getElem?_cons_zero, List.length_cons, List.length_nil, List.set_cons_succ, List.set_cons_zero, Nat.reduceLT, va_up_eq, va_up_nl, tW_8, c_putItem qn hk8 hK hN (fun z h => (hz z (by omega)).1)]
              exact ho vs p hR.symm q1 _ _ _
            · rw [if_neg q1]
              simp only [eX2_readItem_123, eX2_readItem_124, Option.toList_some, Option.toList_none, List.cons_append, List.nil_append, gcat_nil, gcat_cons, cat_int, cat_ref, cat_null, cat_ret, cat_long, grc_ref, narZ0, narZ1, true_and, and_true, decide_true, Nat.reduceAdd, Nat.reduceLeDiff, if_true, if_false, eq_self, gfld_in, gobj_in, garr_in, garq_in, glen_in, gisO_in, ex_some, List.getElem?_cons_succ, List.getElem?_cons_zero, List.length_cons, List.length_nil, List.set_cons_succ, List.set_cons_zero, Nat.reduceLT, va_up_eq, va_up_nl]
              exact hc vs p hR.symm q1 _ _ _
          | succ D ih =>
            intro f vs p nb tt st hf hp hz h4 hR
            have hc1 : ¬ nI (pln q) ≤ nI f := nI_ge (by omega) (by omega)
            have hc5 : ¬ Int32.ofNat 5 ≤ nI f := nI_ge (a := f) (b := 5) (by omega) (by omega)
            have vf : vp_in (nI f) 5 := vp_in_nI (by omega) (by omega)
            have hs2 := tSk_le tv hp
            have he2 := tEn_le tv hs2.2
            have c2 : (tCk tv l (tSk tv l p) = 2) ↔ tK tv l (tSk tv l p) = 2 := tCk_2
            rw [prd] at hR
            rw [eX2_readItem_54]
            simp only [eX2_readItem_55, eX2_readItem_56, eX2_readItem_59, eX2_readItem_60, eX2_readItem_61, eX2_readItem_64, eX2_readItem_65, eX2_readItem_68, eX2_readItem_69, eX2_readItem_72, eX2_readItem_73, eX2_readItem_76, eX2_readItem_77, Option.toList_some, Option.toList_none, List.cons_append, List.nil_append, gcat_nil, gcat_cons, cat_int, cat_ref, cat_null, cat_ret, cat_long, grc_ref, narZ0, narZ1, true_and, and_true, decide_true, Nat.reduceAdd, Nat.reduceLeDiff, if_true, if_false, eq_self, gfld_in, gobj_in, garr_in, garq_in, glen_in, gisO_in, ex_some, List.getElem?_cons_succ, List.getElem?_cons_zero, List.length_cons, List.length_nil, List.set_cons_succ, List.set_cons_zero, Nat.reduceLT, va_up_eq, va_up_nl, hc1, hc5, tW_8, tW_10, c_readToken ht hp, c2]
            by_cases q1 : tK tv l (tSk tv l p) = 2
            · rw [if_neg (fun z => z q1)]
              have hN9 := tN_lt tv l (tSk tv l p)
              have hfit := fun {Q : Option Value → Nat → Nat → gH → Prop} {w : gH} {tl tt st en : Int32} => @c_fits X n k w Q lt nb tl tt st en q f (tN tv l (tSk tv l p)) vs (by omega) hk8 (by omega) hN9 (fun h2 => by
                have h41 : q = 4 := by
                  by_cases y : q = 4
                  · exact y
                  · exfalso
                    have : pln q ≤ 2 := by unfold pln; rw [if_neg y]; split <;> omega
                    omega
                have := hz 1 (by omega)
                exact ⟨this.1, h4 h41 h2, this.2⟩)
              simp only [eX2_readItem_80, eX2_readItem_81, eX2_readItem_82, eX2_readItem_83, eX2_readItem_84, eX2_readItem_87, eX2_readItem_90, Option.toList_some, Option.toList_none, List.cons_append, List.nil_append, gcat_nil, gcat_cons, cat_int, cat_ref, cat_null, cat_ret, cat_long, grc_ref, narZ0, narZ1, true_and, and_true, decide_true, Nat.reduceAdd, Nat.reduceLeDiff, if_true, if_false, eq_self, gfld_in, gobj_in, garr_in, garq_in, glen_in, gisO_in, ex_some, List.getElem?_cons_succ, List.getElem?_cons_zero, List.length_cons, List.length_nil, List.set_cons_succ, List.set_cons_zero, Nat.reduceLT, va_up_eq, va_up_nl, tW_8, c_numberRead ht q1, hfit, gb_0]
              by_cases q2 : (pbd q vs f).1 ≤ tN tv l (tSk tv l p) ∧ tN tv l (tSk tv l p) ≤ (pbd q vs f).2
              · rw [if_pos (fun z => z q2)]
                rw [if_pos ⟨q1, q2⟩] at hR
                simp only [eX2_readItem_95, eX2_readItem_96, eX2_readItem_99, eX2_readItem_100, eX2_readItem_101, eX2_readItem_104, eX2_readItem_105, eX2_readItem_105b, eX2_readItem_105c, eX2_readItem_105d, eX2_readItem_108, Option.toList_some, Option.toList_none, List.cons_append, List.nil_append, gcat_nil, gcat_cons, cat_int, cat_ref, cat_null, cat_ret, cat_long, grc_ref, narZ0, narZ1, true_and, and_true, decide_true, Nat.reduceAdd, Nat.reduceLeDiff, if_true, if_false, eq_self, gfld_in, gobj_in, garr_in, garq_in, glen_in, gisO_in, ex_some, List.getElem?_cons_succ, List.getElem?_cons_zero, List.length_cons, List.length_nil, List.set_cons_succ, List.set_cons_zero, Nat.reduceLT, va_up_eq, va_up_nl, tW_8, tW_10, c_numberRead ht q1, vf, nI_clamp (show f < 2 ^ 31 by omega), tW_p10, nI_1]
                refine ih (f + 1) _ _ _ _ _ (by omega) he2.2 ?_ ?_ hR
                · intro z hz1
                  unfold upn upd
                  by_cases y : z = f
                  · rw [if_pos y, if_pos y]; exact ⟨rfl, hN9⟩
                  · rw [if_neg y, if_neg y]; exact hz z (by omega)
                · intro h41 hf2
                  unfold upn
                  by_cases y : 1 = f
                  · rw [if_pos y]
                    have eb : pbd q vs f = (1, 99) := by rw [h41, ← y]; rfl
                    rw [eb] at q2
                    exact q2.1
                  · rw [if_neg y]; exact h4 h41 (by omega)
              · rw [if_neg (fun z => z q2)]
                rw [if_neg (fun z => q2 z.2)] at hR
                simp only [eX2_readItem_93, eX2_readItem_94, Option.toList_some, Option.toList_none, List.cons_append, List.nil_append, gcat_nil, gcat_cons, cat_int, cat_ref, cat_null, cat_ret, cat_long, grc_ref, narZ0, narZ1, true_and, and_true, decide_true, Nat.reduceAdd, Nat.reduceLeDiff, if_true, if_false, eq_self, gfld_in, gobj_in, garr_in, garq_in, glen_in, gisO_in, ex_some, List.getElem?_cons_succ, List.getElem?_cons_zero, List.length_cons, List.length_nil, List.set_cons_succ, List.set_cons_zero, Nat.reduceLT, va_up_eq, va_up_nl]
                exact hb _ hR.symm _ _ _
            · rw [if_pos q1]
              rw [if_neg (fun z => q1 z.1)] at hR
              simp only [eX2_readItem_93, eX2_readItem_94, Option.toList_some, Option.toList_none, List.cons_append, List.nil_append, gcat_nil, gcat_cons, cat_int, cat_ref, cat_null, cat_ret, cat_long, grc_ref, narZ0, narZ1, true_and, and_true, decide_true, Nat.reduceAdd, Nat.reduceLeDiff, if_true, if_false, eq_self, gfld_in, gobj_in, garr_in, garq_in, glen_in, gisO_in, ex_some, List.getElem?_cons_succ, List.getElem?_cons_zero, List.length_cons, List.length_nil, List.set_cons_succ, List.set_cons_zero, Nat.reduceLT, va_up_eq, va_up_nl]
              exact hb _ hR.symm _ _ _
        have start : gEv (gT X) 30 51 [.ref 8, .int (tCi q), .null, .null] [.int (nI (pln q))] n k (tW (sTr w 11 dk dt dc (nI K) (nI N) rm jm) lt nb (nI l) 1 (nI s) (nI (tEn tv l s))) Q := by
          simp only [eX2_readItem_51, eX2_readItem_51b, eX2_readItem_51c, eX2_readItem_51d, eX2_readItem_52, eX2_readItem_53, eX2_readItem_53b, eX2_readItem_53c, eX2_readItem_53d, Option.toList_some, Option.toList_none, List.cons_append, List.nil_append, gcat_nil, gcat_cons, cat_int, cat_ref, cat_null, cat_ret, cat_long, grc_ref, narZ0, narZ1, true_and, and_true, decide_true, Nat.reduceAdd, Nat.reduceLeDiff, if_true, if_false, eq_self, gfld_in, gobj_in, garr_in, garq_in, glen_in, gisO_in, ex_some, List.getElem?_cons_succ, List.getElem?_cons_zero, List.length_cons, List.length_nil, List.set_cons_succ, List.set_cons_zero, Nat.reduceLT, va_up_eq, va_up_nl]
          exact loop (pln q) 0 (fun _ => 0) (tEn tv l s) nb _ _ (by omega) he.2 (fun z h => absurd h (by omega)) (fun _ h => absurd h (by omega)) rfl
        simp only [eX2_readItem_32, eX2_readItem_33, eX2_readItem_34, Option.toList_some, Option.toList_none, List.cons_append, List.nil_append, gcat_nil, gcat_cons, cat_int, cat_ref, cat_null, cat_ret, cat_long, grc_ref, narZ0, narZ1, true_and, and_true, decide_true, Nat.reduceAdd, Nat.reduceLeDiff, if_true, if_false, eq_self, gfld_in, gobj_in, garr_in, garq_in, glen_in, gisO_in, ex_some, List.getElem?_cons_succ, List.getElem?_cons_zero, List.length_cons, List.length_nil, List.set_cons_succ, List.set_cons_zero, Nat.reduceLT, va_up_eq, va_up_nl]
        by_cases qc : q = 4
        · have e : tCi q = 3 := by rw [qc]; rfl
          have e2 : pln q = 5 := by rw [qc]; rfl
          rw [e, e2] at start
          rw [e]
          simp only [eX2_readItem_37, eX2_readItem_38, Option.toList_some, Option.toList_none, List.cons_append, List.nil_append, gcat_nil, gcat_cons, cat_int, cat_ref, cat_null, cat_ret, cat_long, grc_ref, narZ0, narZ1, true_and, and_true, decide_true, Nat.reduceAdd, Nat.reduceLeDiff, if_true, if_false, eq_self, gfld_in, gobj_in, garr_in, garq_in, glen_in, gisO_in, ex_some, List.getElem?_cons_succ, List.getElem?_cons_zero, List.length_cons, List.length_nil, List.set_cons_succ, List.set_cons_zero, Nat.reduceLT, va_up_eq, va_up_nl, not_true_eq_false]
          exact start
        · have e : ∀ q, q < 9 → ¬ q < 4 → ¬ q = 4 → ¬ tCi q = 3 := by decide
          rw [if_pos (e q (by omega) q3 qc)]
          simp only [eX2_readItem_41, eX2_readItem_42, eX2_readItem_43, Option.toList_some, Option.toList_none, List.cons_append, List.nil_append, gcat_nil, gcat_cons, cat_int, cat_ref, cat_null, cat_ret, cat_long, grc_ref, narZ0, narZ1, true_and, and_true, decide_true, Nat.reduceAdd, Nat.reduceLeDiff, if_true, if_false, eq_self, gfld_in, gobj_in, garr_in, garq_in, glen_in, gisO_in, ex_some, List.getElem?_cons_succ, List.getElem?_cons_zero, List.length_cons, List.length_nil, List.set_cons_succ, List.set_cons_zero, Nat.reduceLT, va_up_eq, va_up_nl]
          by_cases qr : q = 8
          · have e : tCi q = 4 := by rw [qr]; rfl
            have e2 : pln q = 1 := by rw [qr]; rfl
            rw [e, e2] at start
            rw [e]
            simp only [eX2_readItem_46, eX2_readItem_47, Option.toList_some, Option.toList_none, List.cons_append, List.nil_append, gcat_nil, gcat_cons, cat_int, cat_ref, cat_null, cat_ret, cat_long, grc_ref, narZ0, narZ1, true_and, and_true, decide_true, Nat.reduceAdd, Nat.reduceLeDiff, if_true, if_false, eq_self, gfld_in, gobj_in, garr_in, garq_in, glen_in, gisO_in, ex_some, List.getElem?_cons_succ, List.getElem?_cons_zero, List.length_cons, List.length_nil, List.set_cons_succ, List.set_cons_zero, Nat.reduceLT, va_up_eq, va_up_nl, not_true_eq_false]
            exact start
          · have e : ∀ q, q < 9 → ¬ q < 4 → ¬ q = 8 → ¬ tCi q = 4 := by decide
            have e2 : pln q = 2 := by unfold pln; rw [if_neg qc, if_neg qr]
            rw [e2] at start
            rw [if_pos (e q (by omega) q3 qr)]
            simp only [eX2_readItem_50, Option.toList_some, Option.toList_none, List.cons_append, List.nil_append, gcat_nil, gcat_cons, cat_int, cat_ref, cat_null, cat_ret, cat_long, grc_ref, narZ0, narZ1, true_and, and_true, decide_true, Nat.reduceAdd, Nat.reduceLeDiff, if_true, if_false, eq_self, gfld_in, gobj_in, garr_in, garq_in, glen_in, gisO_in, ex_some, List.getElem?_cons_succ, List.getElem?_cons_zero, List.length_cons, List.length_nil, List.set_cons_succ, List.set_cons_zero, Nat.reduceLT, va_up_eq, va_up_nl]
            exact start
  · have e1 : ¬ tCk tv l s = 1 := fun z => qw (tCk_w.mp z)
    have hk := tK_w3 qw
    rw [if_pos e1]
    simp only [eX2_readItem_15, eX2_readItem_16, eX2_readItem_16b, eX2_readItem_16c, eX2_readItem_16d, eX2_readItem_17, eX2_readItem_18, eX2_readItem_19, eX2_readItem_30, eX2_readItem_31, Option.toList_some, Option.toList_none, List.cons_append, List.nil_append, gcat_nil, gcat_cons, cat_int, cat_ref, cat_null, cat_ret, cat_long, grc_ref, narZ0, narZ1, true_and, and_true, decide_true, Nat.reduceAdd, Nat.reduceLeDiff, if_true, if_false, eq_self, gfld_in, gobj_in, garr_in, garq_in, glen_in, gisO_in, ex_some, List.getElem?_cons_succ, List.getElem?_cons_zero, List.length_cons, List.length_nil, List.set_cons_succ, List.set_cons_zero, Nat.reduceLT, va_up_eq, va_up_nl]
    refine hb s ?_ _ _ _
    unfold pit
    rw [if_pos (Or.inl hk)]
/-- the draft, when all items are put -/
def dpa : List (Nat × (Nat → Nat)) → Nat → Nat → (Nat → Int32) × (Nat → Int32) × Int32 → (Nat → Int32) × (Nat → Int32) × Int32
  | [], _, _, d => d
  | (q, vs) :: r, K, N, d => dpa r (pK q K) (pN q N) (dpk d.1 q K vs, dpt d.2.1 q N vs, dpr d.2.2 q vs)
def dKs : List (Nat × (Nat → Nat)) → Nat → Nat
  | [], K => K
  | (q, _) :: r, K => dKs r (pK q K)
def dNs : List (Nat × (Nat → Nat)) → Nat → Nat
  | [], N => N
  | (q, _) :: r, N => dNs r (pN q N)
theorem c_readAll (ht : gtx lt tv l) (hb : ∀ f, pal tv l (l + 1) 0 0 0 = .inl f → ∀ dk dt kc tc rm nb tt st en, f ≤ l → Q (some (.int (-10 - nI f))) n k (tW (sTr w 11 dk dt (gz dc) kc tc rm (-9)) lt nb (nI l) tt st en)) (ho : ∀ r, pal tv l (l + 1) 0 0 0 = .inr r → ∀ nb tt st en, Q (some (.int (nI r.length))) n k (tW (sTr w 11 (dpa r 0 0 (dk, dt, 20)).1 (dpa r 0 0 (dk, dt, 20)).2.1 (gz dc) (nI (dKs r 0)) (nI (dNs r 0)) (dpa r 0 0 (dk, dt, 20)).2.2 (-9)) lt nb (nI l) tt st en)) : gEv (gT X) 29 0 [.ref 8, .null] [] n k (tW (sTr w 11 dk dt dc kc tc rm jm) lt nb (nI l) tt st en) Q := by
  have hl := ht.1
  have loop : ∀ (F K N p i : Nat) (dk dt : Nat → Int32) (rm : Int32) (nb : Nat → Int32), p ≤ l → l + 1 ≤ F + p → i ≤ p → K ≤ 6 → N ≤ 6 → (∀ f, pal tv l F K N p = .inl f → ∀ dk dt kc tc rm nb tt st en, f ≤ l → Q (some (.int (-10 - nI f))) n k (tW (sTr w 11 dk dt (gz dc) kc tc rm (-9)) lt nb (nI l) tt st en)) → (∀ r, pal tv l F K N p = .inr r → ∀ nb tt st en, Q (some (.int (nI (i + r.length)))) n k (tW (sTr w 11 (dpa r K N (dk, dt, rm)).1 (dpa r K N (dk, dt, rm)).2.1 (gz dc) (nI (dKs r K)) (nI (dNs r N)) (dpa r K N (dk, dt, rm)).2.2 (-9)) lt nb (nI l) tt st en)) → gEv (gT X) 29 18 [.ref 8, .int (nI i)] [] n k (tW (sTr w 11 dk dt (gz dc) (nI K) (nI N) rm (-9)) lt nb (nI l) (tCk tv l (tSk tv l p)) (nI (tSk tv l p)) (nI (tEn tv l (tSk tv l p)))) Q := by
    intro F
    induction F with
    | zero => intro K N p i dk dt rm nb h1 h2; omega
    | succ F ih =>
      intro K N p i dk dt rm nb hp hF hi hK hN hb ho
      have hs := tSk_le tv hp
      have he := tEn_le tv hs.2
      have hk0 : (tCk tv l (tSk tv l p) = 0) ↔ tK tv l (tSk tv l p) = 0 := tCk_0
      rw [pal] at hb ho
      rw [eX2_readAll_18]
      simp only [eX2_readAll_19, eX2_readAll_22, Option.toList_some, Option.toList_none, List.cons_append, List.nil_append, gcat_nil, gcat_cons, cat_int, cat_ref, cat_null, cat_ret, cat_long, grc_ref, narZ0, narZ1, true_and, and_true, decide_true, Nat.reduceAdd, Nat.reduceLeDiff, if_true, if_false, eq_self, gfld_in, gobj_in, garr_in, garq_in, glen_in, gisO_in, ex_some, List.getElem?_cons_succ, List.getElem?_cons_zero, List.length_cons, List.length_nil, List.set_cons_succ, List.set_cons_zero, Nat.reduceLT, va_up_eq, va_up_nl, tW_8, hk0]
      by_cases q : tK tv l (tSk tv l p) = 0
      · rw [if_pos q] at ho ⊢
        simp only [eX2_readAll_57, eX2_readAll_58, Option.toList_some, Option.toList_none, List.cons_append, List.nil_append, gcat_nil, gcat_cons, cat_int, cat_ref, cat_null, cat_ret, cat_long, grc_ref, narZ0, narZ1, true_and, and_true, decide_true, Nat.reduceAdd, Nat.reduceLeDiff, if_true, if_false, eq_self, gfld_in, gobj_in, garr_in, garq_in, glen_in, gisO_in, ex_some, List.getElem?_cons_succ, List.getElem?_cons_zero, List.length_cons, List.length_nil, List.set_cons_succ, List.set_cons_zero, Nat.reduceLT, va_up_eq, va_up_nl]
        exact ho [] rfl _ _ _ _
      · rw [if_neg q] at hb ho ⊢
        have hsl : tSk tv l p < l := by
          by_cases z : l ≤ tSk tv l p
          · exact absurd ((tK_0 tv).mpr z) q
          · omega
        have hlt := tEn_lt tv hsl
        have hc : ¬ 150 < nI i := nI_nlt (a := 150) (by omega) (by omega)
        simp only [eX2_readAll_25, eX2_readAll_26, eX2_readAll_29, eX2_readAll_32, eX2_readAll_33, Option.toList_some, Option.toList_none, List.cons_append, List.nil_append, gcat_nil, gcat_cons, cat_int, cat_ref, cat_null, cat_ret, cat_long, grc_ref, narZ0, narZ1, true_and, and_true, decide_true, Nat.reduceAdd, Nat.reduceLeDiff, if_true, if_false, eq_self, gfld_in, gobj_in, garr_in, garq_in, glen_in, gisO_in, ex_some, List.getElem?_cons_succ, List.getElem?_cons_zero, List.length_cons, List.length_nil, List.set_cons_succ, List.set_cons_zero, Nat.reduceLT, va_up_eq, va_up_nl, tW_8, hc]
        refine c_readItem ht hs.2 hK hN ?_ ?_ ?_
        · intro f hf nb tt en
          rw [hf] at hb
          have hfl : f ≤ l := by
            unfold pit at hf
            by_cases z : pno K N (tK tv l (tSk tv l p))
            · rw [if_pos z] at hf; cases hf; exact hs.2
            · rw [if_neg z] at hf; exact prd_inl _ _ _ _ _ _ _ _ he.2 hf
          simp only [eX2_readAll_36, eX2_readAll_39, eX2_readAll_41, eX2_readAll_42, eX2_readAll_45, eX2_readAll_46, Option.toList_some, Option.toList_none, List.cons_append, List.nil_append, gcat_nil, gcat_cons, cat_int, cat_ref, cat_null, cat_ret, cat_long, grc_ref, narZ0, narZ1, true_and, and_true, decide_true, Nat.reduceAdd, Nat.reduceLeDiff, if_true, if_false, eq_self, gfld_in, gobj_in, garr_in, garq_in, glen_in, gisO_in, ex_some, List.getElem?_cons_succ, List.getElem?_cons_zero, List.length_cons, List.length_nil, List.set_cons_succ, List.set_cons_zero, Nat.reduceLT, va_up_eq, va_up_nl, tW_8, not_true_eq_false]
          exact hb f rfl _ _ _ _ _ _ _ _ _ hfl
        · intro vs e hf h1 nb tt en
          rw [hf] at hb
          have hno : ¬ pno K N (tK tv l (tSk tv l p)) := by
            intro z
            unfold pit at hf
            rw [if_pos z] at hf; cases hf
          have hel : tEn tv l (tSk tv l p) ≤ e ∧ e ≤ l := by
            unfold pit at hf
            rw [if_neg hno] at hf
            exact prd_le _ _ _ _ _ _ _ _ _ he.2 hf
          have hs2 := tSk_le tv hel.2
          dsimp only at hb
          rw [if_neg h1] at hb
          simp only [eX2_readAll_36, eX2_readAll_39, eX2_readAll_41, eX2_readAll_42, eX2_readAll_45, eX2_readAll_46, Option.toList_some, Option.toList_none, List.cons_append, List.nil_append, gcat_nil, gcat_cons, cat_int, cat_ref, cat_null, cat_ret, cat_long, grc_ref, narZ0, narZ1, true_and, and_true, decide_true, Nat.reduceAdd, Nat.reduceLeDiff, if_true, if_false, eq_self, gfld_in, gobj_in, garr_in, garq_in, glen_in, gisO_in, ex_some, List.getElem?_cons_succ, List.getElem?_cons_zero, List.length_cons, List.length_nil, List.set_cons_succ, List.set_cons_zero, Nat.reduceLT, va_up_eq, va_up_nl, tW_8, not_true_eq_false]
          exact hb _ rfl _ _ _ _ _ _ _ _ _ hs2.2
        · intro vs e hf h1 nb tt st
          rw [hf] at hb ho
          have h10 : ¬ (1 : Int32) = 0 := by decide
          have hno : ¬ pno K N (tK tv l (tSk tv l p)) := by
            intro z
            unfold pit at hf
            rw [if_pos z] at hf; cases hf
          have hel : tEn tv l (tSk tv l p) ≤ e ∧ e ≤ l := by
            unfold pit at hf
            rw [if_neg hno] at hf
            exact prd_le _ _ _ _ _ _ _ _ _ he.2 hf
          have hs2 := tSk_le tv hel.2
          have he2 := tEn_le tv hs2.2
          dsimp only at hb ho
          rw [if_pos h1] at hb ho
          simp only [eX2_readAll_36, eX2_readAll_47, eX2_readAll_47b, eX2_readAll_47c, eX2_readAll_47d, eX2_readAll_50, eX2_readAll_51, Option.toList_some, Option.toList_none, List.cons_append, List.nil_append, gcat_nil, gcat_cons, cat_int, cat_ref, cat_null, cat_ret, cat_long, grc_ref, narZ0, narZ1, true_and, and_true, decide_true, Nat.reduceAdd, Nat.reduceLeDiff, if_true, if_false, eq_self, gfld_in, gobj_in, garr_in, garq_in, glen_in, gisO_in, ex_some, List.getElem?_cons_succ, List.getElem?_cons_zero, List.length_cons, List.length_nil, List.set_cons_succ, List.set_cons_zero, Nat.reduceLT, va_up_eq, va_up_nl, tW_8, h10, not_false_eq_true, nI_1, c_readToken ht he2.2]
          simp only [eX2_readAll_54, Option.toList_some, Option.toList_none, List.cons_append, List.nil_append, gcat_nil, gcat_cons, cat_int, cat_ref, cat_null, cat_ret, cat_long, grc_ref, narZ0, narZ1, true_and, and_true, decide_true, Nat.reduceAdd, Nat.reduceLeDiff, if_true, if_false, eq_self, gfld_in, gobj_in, garr_in, garq_in, glen_in, gisO_in, ex_some, List.getElem?_cons_succ, List.getElem?_cons_zero, List.length_cons, List.length_nil, List.set_cons_succ, List.set_cons_zero, Nat.reduceLT, va_up_eq, va_up_nl]
          refine ih (pK (tK tv l (tSk tv l p)) K) (pN (tK tv l (tSk tv l p)) N) (tEn tv l (tSk tv l e)) (i + 1) _ _ _ _ he2.2 (by omega) (by omega) ?_ ?_ ?_ ?_
          · unfold pK
            by_cases z : tK tv l (tSk tv l p) = 4
            · rw [if_pos z]
              have : ¬ K = 6 := fun y => hno (Or.inr (Or.inl ⟨z, y⟩))
              omega
            · rw [if_neg z]; exact hK
          · unfold pN
            by_cases z : 5 ≤ tK tv l (tSk tv l p) ∧ tK tv l (tSk tv l p) ≤ 7
            · rw [if_pos z]
              have : ¬ N = 6 := fun y => hno (Or.inr (Or.inr ⟨z.1, z.2, y⟩))
              omega
            · rw [if_neg z]; exact hN
          · intro f hf dk dt kc tc rm nb tt st en hfl
            rw [hf] at hb
            exact hb f rfl _ _ _ _ _ _ _ _ _ hfl
          · intro r hr nb tt st en
            rw [hr] at ho
            have := ho _ rfl nb tt st en
            rw [dpa, dKs, dNs, List.length_cons] at this
            rw [show i + 1 + r.length = i + (r.length + 1) by omega]
            exact this
  have n0 : ∀ {w : gH} {tt st : Int32} {Q : Option Value → Nat → Nat → gH → Prop}, gEv (gT X) 37 0 [.ref 8] [] n k (tW w lt nb (nI l) tt st 0) Q ↔ Q none n k (tW w lt nb (nI l) (tCk tv l (tSk tv l 0)) (nI (tSk tv l 0)) (nI (tEn tv l (tSk tv l 0)))) := c_readToken (p := 0) ht (by omega)
  have rs : ∀ {Q : Option Value → Nat → Nat → gH → Prop}, gEv (gT X) 43 0 [.ref 11] [] n k (tW (sTr w 11 dk dt dc kc tc rm jm) lt nb (nI l) tt st en) Q ↔ Q none n k (tW (sTr w 11 dk dt (gz dc) 0 0 20 (-9)) lt nb (nI l) tt st en) := by
    intro Q
    rw [tW_sTr, tW_sTr, c_reset]
  simp only [eX2_readAll_0, eX2_readAll_1, eX2_readAll_4, eX2_readAll_7, eX2_readAll_8, eX2_readAll_9, eX2_readAll_12, eX2_readAll_13, eX2_readAll_16, eX2_readAll_17, eX2_readAll_17b, eX2_readAll_17c, eX2_readAll_17d, Option.toList_some, Option.toList_none, List.cons_append, List.nil_append, gcat_nil, gcat_cons, cat_int, cat_ref, cat_null, cat_ret, cat_long, grc_ref, narZ0, narZ1, true_and, and_true, decide_true, Nat.reduceAdd, Nat.reduceLeDiff, if_true, if_false, eq_self, gfld_in, gobj_in, garr_in, garq_in, glen_in, gisO_in, ex_some, List.getElem?_cons_succ, List.getElem?_cons_zero, List.length_cons, List.length_nil, List.set_cons_succ, List.set_cons_zero, Nat.reduceLT, va_up_eq, va_up_nl, tW_8, tWs_11, rs, tW_p8, n0]
  refine loop (l + 1) 0 0 0 0 dk dt 20 nb (by omega) (by omega) (by omega) (by omega) (by omega) hb ?_
  intro r hr nb tt st en
  rw [Nat.zero_add]
  exact ho r hr nb tt st en
end TH
