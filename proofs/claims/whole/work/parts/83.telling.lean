/-! THE WITNESS: the telling coin -/
def pmo (kr ts : Nat → Int32) (N : Nat) (l : List Nat) (c x : Nat) : Int32 := (mmb (fun u => gbc kr ts N (nI c) (nI x) (gsu u)) l 0 l.length (mrng 0 7 (fun _ => 0) (fun _ => 0), 0)).2
def plx (mb : Nat → Nat → Int32) (c : Nat) : Nat → Nat → Int32 × Int32 → Int32 × Int32 := gfor (fun x s => if s.1 = -9 ∨ mb c x < s.2 then (nI (10 * c + x), mb c x) else s)
def plk (mb : Nat → Nat → Int32) (We : Nat → Nat) : Nat → Nat → Int32 × Int32 → Int32 × Int32 := gfor (fun c s => plx mb c 0 (We c + 1) s)
theorem max_sw {a b : Int32} : (if a < b then b else a) = (if b ≤ a then a else b) := by
  by_cases q : a < b
  · rw [if_pos q, if_neg (Int32.not_le.mpr q)]
  · rw [if_neg q, if_pos (Int32.not_lt.mp q)]
section WD
variable {X : gX} {n k : Nat} {w : gH} {Q : Option Value → Nat → Nat → gH → Prop} {sr su ty : Nat → Int32} {kr ts co : Nat → Int32} {rm jm : Int32} {K N S : Nat} {We Fk Fx Fb : Nat → Nat} {l : List Nat} {sc : Int32}
theorem gbc_le {a x s : Int32} : gbc kr ts N a x s ≤ N := by
  have := gfst_le (fun i => gfall (ts (3 * i)) (ts (3 * i + 1)) (gsh s i) (gof kr 30 (a * 5 + 0)) (gof kr 30 (a * 5 + 1) - x) (gof kr 30 (a * 5 + 2)) = true) N 0
  unfold gbc gbn
  omega
theorem c_mostAgreeing (hT : isTr w 1 kr ts co (nI K) (nI N) rm jm) (hN : N ≤ 6) (hl : l.length ≤ 13) (hg : gagu su l) {c x : Nat} (hQ : ∀ ty, Q (some (.int (pmo kr ts N l c x))) n k (wW w sr su ty sc (nI l.length))) : gEv (gT X) 83 0 [.ref 20, .ref 1, .int (nI c), .int (nI x), .null, .null, .null] [] n k (wW w sr su ty sc (nI l.length)) Q := by
  have second : ∀ (D j : Nat) (m : Int32) (ty : Nat → Int32) (v6 : Value), j + D = l.length → (∀ ty', Q (some (.int (mmb (fun u => gbc kr ts N (nI c) (nI x) (gsu u)) l j D (ty, m)).2)) n k (wW w sr su ty' sc (nI l.length))) → gEv (gT X) 83 33 [.ref 20, .ref 1, .int (nI c), .int (nI x), .int m, .int (nI j), v6] [] n k (wW w sr su ty sc (nI l.length)) Q := by
    intro D
    induction D with
    | zero =>
      intro j m ty v6 hj hq
      have hc : nI l.length ≤ nI j := nI_le (by omega) (by omega)
      rw [eX4_mostAgreeing_33]
      simp only [eX4_mostAgreeing_35, eX4_mostAgreeing_36, eX4_mostAgreeing_39, eX4_mostAgreeing_113, eX4_mostAgreeing_115, Option.toList_some, Option.toList_none, List.cons_append, List.nil_append, gcat_nil, gcat_cons, cat_int, cat_ref, cat_null, cat_ret, cat_long, grc_ref, narZ0, narZ1, true_and, and_true, decide_true, Nat.reduceAdd, Nat.reduceLeDiff, if_true, if_false, eq_self, gfld_in, gobj_in, garr_in, garq_in, glen_in, gisO_in, ex_some, List.getElem?_cons_succ, List.getElem?_cons_zero, List.length_cons, List.length_nil, List.set_cons_succ, List.set_cons_zero, Nat.reduceLT, va_up_eq, va_up_nl, wW_20, hc]
      exact hq ty
    | succ D ih =>
      intro j m ty v6 hj hq
      have hc : ¬ nI l.length ≤ nI j := nI_ge (by omega) (by omega)
      have hc2 : ¬ Int32.ofNat 13 ≤ nI j := nI_ge (a := j) (b := 13) (by omega) (by omega)
      have vj : vp_in (nI j) 13 := vp_in_nI (by omega) (by omega)
      have e0 : mmb (fun u => gbc kr ts N (nI c) (nI x) (gsu u)) l j (D + 1) (ty, m) = mmb (fun u => gbc kr ts N (nI c) (nI x) (gsu u)) l (j + 1) D (mms (gbc kr ts N (nI c) (nI x) (gsu (l.getD j 0))) (ty, m)) := rfl
      rw [e0] at hq
      clear e0
      have hle : gbc kr ts N (nI c) (nI x) (gsu (l.getD j 0)) ≤ N := gbc_le
      rw [eX4_mostAgreeing_33]
      simp only [eX4_mostAgreeing_35, eX4_mostAgreeing_36, eX4_mostAgreeing_39, eX4_mostAgreeing_42, eX4_mostAgreeing_44, eX4_mostAgreeing_45, eX4_mostAgreeing_48, eX4_mostAgreeing_49, eX4_mostAgreeing_52, eX4_mostAgreeing_53, eX4_mostAgreeing_54, eX4_mostAgreeing_55, eX4_mostAgreeing_56, eX4_mostAgreeing_59, eX4_mostAgreeing_61, eX4_mostAgreeing_62, Option.toList_some, Option.toList_none, List.cons_append, List.nil_append, gcat_nil, gcat_cons, cat_int, cat_ref, cat_null, cat_ret, cat_long, grc_ref, narZ0, narZ1, true_and, and_true, decide_true, Nat.reduceAdd, Nat.reduceLeDiff, if_true, if_false, eq_self, gfld_in, gobj_in, garr_in, garq_in, glen_in, gisO_in, ex_some, List.getElem?_cons_succ, List.getElem?_cons_zero, List.length_cons, List.length_nil, List.set_cons_succ, List.set_cons_zero, Nat.reduceLT, va_up_eq, va_up_nl, wW_20, wW_22, wW_1 hT, hc, hc2, vj, nI_clamp (show j < 2 ^ 31 by omega), hg j (by omega), c_binOfCoin hN (wW_tr hT)]
      generalize gbc kr ts N (nI c) (nI x) (gsu (l.getD j 0)) = b at *
      have vb : vp_in (nI b) 7 := vp_in_nI (by omega) (by omega)
      have cb0 : ¬ nI b < 0 := nI_pos (by omega)
      have cb7 : ¬ Int32.ofNat 7 ≤ nI b := nI_ge (a := b) (b := 7) (by omega) (by omega)
      have eu : ∀ y, upd ty b y b = y := fun y => by simp [upd]
      simp only [eX4_mostAgreeing_65, eX4_mostAgreeing_65b, eX4_mostAgreeing_65c, eX4_mostAgreeing_65d, eX4_mostAgreeing_67, eX4_mostAgreeing_69, eX4_mostAgreeing_72, eX4_mostAgreeing_74, eX4_mostAgreeing_75, eX4_mostAgreeing_78, eX4_mostAgreeing_79, eX4_mostAgreeing_82, eX4_mostAgreeing_83, eX4_mostAgreeing_86, eX4_mostAgreeing_88, eX4_mostAgreeing_89, eX4_mostAgreeing_90, eX4_mostAgreeing_91, eX4_mostAgreeing_92, eX4_mostAgreeing_93, eX4_mostAgreeing_95, eX4_mostAgreeing_96, eX4_mostAgreeing_99, eX4_mostAgreeing_101, eX4_mostAgreeing_102, eX4_mostAgreeing_105, eX4_mostAgreeing_105b, eX4_mostAgreeing_105c, eX4_mostAgreeing_105d, eX4_mostAgreeing_107, eX4_mostAgreeing_107b, eX4_mostAgreeing_107c, eX4_mostAgreeing_107d, eX4_mostAgreeing_110, Option.toList_some, Option.toList_none, List.cons_append, List.nil_append, gcat_nil, gcat_cons, cat_int, cat_ref, cat_null, cat_ret, cat_long, grc_ref, narZ0, narZ1, true_and, and_true, decide_true, Nat.reduceAdd, Nat.reduceLeDiff, if_true, if_false, eq_self, gfld_in, gobj_in, garr_in, garq_in, glen_in, gisO_in, ex_some, List.getElem?_cons_succ, List.getElem?_cons_zero, List.length_cons, List.length_nil, List.set_cons_succ, List.set_cons_zero, Nat.reduceLT, va_up_eq, va_up_nl, wW_20, wW_23, cb0, cb7, vb, nI_clamp (show b < 2 ^ 31 by omega), wW_p23, eu, max_sw, nI_1]
      unfold mms at hq
      dsimp only at hq
      exact ih (j + 1) _ _ _ (by omega) hq
  have first : ∀ (D j : Nat), j + D = 7 → gEv (gT X) 83 3 [.ref 20, .ref 1, .int (nI c), .int (nI x), .int (nI j), .null, .null] [] n k (wW w sr su (mrng 0 j (fun _ => 0) ty) sc (nI l.length)) Q := by
    intro D
    induction D with
    | zero =>
      intro j hj
      have hc : Int32.ofNat 7 ≤ nI j := nI_le (a := 7) (by omega) (by omega)
      rw [eX4_mostAgreeing_3]
      simp only [eX4_mostAgreeing_5, eX4_mostAgreeing_6, eX4_mostAgreeing_9, eX4_mostAgreeing_10, eX4_mostAgreeing_27, eX4_mostAgreeing_28, eX4_mostAgreeing_28b, eX4_mostAgreeing_28c, eX4_mostAgreeing_28d, eX4_mostAgreeing_30, eX4_mostAgreeing_31, eX4_mostAgreeing_31b, eX4_mostAgreeing_31c, eX4_mostAgreeing_31d, Option.toList_some, Option.toList_none, List.cons_append, List.nil_append, gcat_nil, gcat_cons, cat_int, cat_ref, cat_null, cat_ret, cat_long, grc_ref, narZ0, narZ1, true_and, and_true, decide_true, Nat.reduceAdd, Nat.reduceLeDiff, if_true, if_false, eq_self, gfld_in, gobj_in, garr_in, garq_in, glen_in, gisO_in, ex_some, List.getElem?_cons_succ, List.getElem?_cons_zero, List.length_cons, List.length_nil, List.set_cons_succ, List.set_cons_zero, Nat.reduceLT, va_up_eq, va_up_nl, wW_20, wW_23, hc]
      rw [show j = 7 by omega]
      refine second l.length 0 0 (mrng 0 7 (fun _ => 0) ty) _ (by omega) ?_
      intro ty'
      have := hQ ty'
      unfold pmo at this
      rw [mmb_out (fun u => gbc kr ts N (nI c) (nI x) (gsu u)) l (fun u => by have : gbc kr ts N (nI c) (nI x) (gsu u) ≤ N := gbc_le; omega) l.length 0 (mrng 0 7 (fun _ => 0) ty) (mrng 0 7 (fun _ => 0) (fun _ => 0)) 0 (fun b hb => by rw [mrng_in (Nat.zero_le _) hb, mrng_in (Nat.zero_le _) hb])]
      exact this
    | succ D ih =>
      intro j hj
      have hc : ¬ Int32.ofNat 7 ≤ nI j := nI_ge (a := j) (b := 7) (by omega) (by omega)
      have v1 : vp_in (nI j) 7 := vp_in_nI (by omega) (by omega)
      have e1 := mrng_up (lo := 0) (k := j) (f := fun _ => (0 : Int32)) (g := ty) (x := 0) (by omega) rfl
      rw [eX4_mostAgreeing_3]
      simp only [eX4_mostAgreeing_5, eX4_mostAgreeing_6, eX4_mostAgreeing_9, eX4_mostAgreeing_10, eX4_mostAgreeing_13, eX4_mostAgreeing_14, eX4_mostAgreeing_17, eX4_mostAgreeing_19, eX4_mostAgreeing_20, eX4_mostAgreeing_21, eX4_mostAgreeing_21b, eX4_mostAgreeing_21c, eX4_mostAgreeing_21d, eX4_mostAgreeing_24, Option.toList_some, Option.toList_none, List.cons_append, List.nil_append, gcat_nil, gcat_cons, cat_int, cat_ref, cat_null, cat_ret, cat_long, grc_ref, narZ0, narZ1, true_and, and_true, decide_true, Nat.reduceAdd, Nat.reduceLeDiff, if_true, if_false, eq_self, gfld_in, gobj_in, garr_in, garq_in, glen_in, gisO_in, ex_some, List.getElem?_cons_succ, List.getElem?_cons_zero, List.length_cons, List.length_nil, List.set_cons_succ, List.set_cons_zero, Nat.reduceLT, va_up_eq, va_up_nl, wW_20, wW_23, hc, v1, nI_clamp (show j < 2 ^ 31 by omega), wW_p23, e1, nI_1]
      exact ih (j + 1) (by omega)
  have := first 7 0 (by omega)
  rw [mrng_nil] at this
  simp only [eX4_mostAgreeing_0, eX4_mostAgreeing_1, eX4_mostAgreeing_1b, eX4_mostAgreeing_1c, eX4_mostAgreeing_1d, Option.toList_some, Option.toList_none, List.cons_append, List.nil_append, gcat_nil, gcat_cons, cat_int, cat_ref, cat_null, cat_ret, cat_long, grc_ref, narZ0, narZ1, true_and, and_true, decide_true, Nat.reduceAdd, Nat.reduceLeDiff, if_true, if_false, eq_self, gfld_in, gobj_in, garr_in, garq_in, glen_in, gisO_in, ex_some, List.getElem?_cons_succ, List.getElem?_cons_zero, List.length_cons, List.length_nil, List.set_cons_succ, List.set_cons_zero, Nat.reduceLT, va_up_eq, va_up_nl]
  exact this
def plo (kr ts : Nat → Int32) (N K : Nat) (We : Nat → Nat) (l : List Nat) : Int32 := if l.length ≤ 1 then -9 else (plk (fun c x => pmo kr ts N l c x) We 0 K (-9, 0)).1
theorem c_tellingCoin (hT : isTr w 1 kr ts co (nI K) (nI N) rm jm) (hK : K ≤ 6) (hN : N ≤ 6) (hW : ∀ c, c < K → kr (5 * c + 3) = nI (We c) ∧ We c < 10) (hl : l.length ≤ 13) (hg : gagu su l) (hQ : ∀ ty, Q (some (.int (plo kr ts N K We l))) n k (wW w sr su ty sc (nI l.length))) : gEv (gT X) 82 0 [.ref 20, .ref 1, .null, .null, .null, .null, .null, .null] [] n k (wW w sr su ty sc (nI l.length)) Q := by
  have inner : ∀ (c : Nat), c < K → ∀ (D x : Nat) (s : Int32 × Int32) (ty : Nat → Int32) (v7 : Value), x + D = We c + 1 → (∀ ty (v6 v7 : Value) (y5 : Int32), gEv (gT X) 82 88 [.ref 20, .ref 1, .int (plx (fun c x => pmo kr ts N l c x) c x D s).1, .int (plx (fun c x => pmo kr ts N l c x) c x D s).2, .int (nI c), .int (nI (We c)), v6, v7] [] n k (wW w sr su ty sc (nI l.length)) Q) → gEv (gT X) 82 40 [.ref 20, .ref 1, .int s.1, .int s.2, .int (nI c), .int (nI (We c)), .int (nI x), v7] [] n k (wW w sr su ty sc (nI l.length)) Q := by
    intro c hc D
    obtain ⟨hw1, hw2⟩ := hW c hc
    induction D with
    | zero =>
      intro x s ty v7 hx hq
      have hc1 : nI (We c) < nI x := nI_lt (by omega) (by omega)
      rw [eX4_tellingCoin_40]
      simp only [eX4_tellingCoin_42, eX4_tellingCoin_44, Option.toList_some, Option.toList_none, List.cons_append, List.nil_append, gcat_nil, gcat_cons, cat_int, cat_ref, cat_null, cat_ret, cat_long, grc_ref, narZ0, narZ1, true_and, and_true, decide_true, Nat.reduceAdd, Nat.reduceLeDiff, if_true, if_false, eq_self, gfld_in, gobj_in, garr_in, garq_in, glen_in, gisO_in, ex_some, List.getElem?_cons_succ, List.getElem?_cons_zero, List.length_cons, List.length_nil, List.set_cons_succ, List.set_cons_zero, Nat.reduceLT, va_up_eq, va_up_nl, hc1]
      exact hq _ _ _ 0
    | succ D ih =>
      intro x s ty v7 hx hq
      have hc1 : ¬ nI (We c) < nI x := nI_nlt (by omega) (by omega)
      rw [eX4_tellingCoin_40]
      simp only [eX4_tellingCoin_42, eX4_tellingCoin_44, eX4_tellingCoin_47, eX4_tellingCoin_48, eX4_tellingCoin_49, eX4_tellingCoin_51, eX4_tellingCoin_53, Option.toList_some, Option.toList_none, List.cons_append, List.nil_append, gcat_nil, gcat_cons, cat_int, cat_ref, cat_null, cat_ret, cat_long, grc_ref, narZ0, narZ1, true_and, and_true, decide_true, Nat.reduceAdd, Nat.reduceLeDiff, if_true, if_false, eq_self, gfld_in, gobj_in, garr_in, garq_in, glen_in, gisO_in, ex_some, List.getElem?_cons_succ, List.getElem?_cons_zero, List.length_cons, List.length_nil, List.set_cons_succ, List.set_cons_zero, Nat.reduceLT, va_up_eq, va_up_nl, hc1, wW_20]
      refine c_mostAgreeing hT hN hl hg ?_
      intro ty
      have e : plx (fun c x => pmo kr ts N l c x) c x (D + 1) s = plx (fun c x => pmo kr ts N l c x) c (x + 1) D (if s.1 = -9 ∨ pmo kr ts N l c x < s.2 then (nI (10 * c + x), pmo kr ts N l c x) else s) := rfl
      rw [e] at hq
      have e10 : 10 * nI c + nI x = nI (10 * c + x) := by rw [show (10 : Int32) = nI 10 from rfl, pk_mul, nI_add]
      have yes : (s.1 = -9 ∨ pmo kr ts N l c x < s.2) → gEv (gT X) 82 70 [.ref 20, .ref 1, .int s.1, .int s.2, .int (nI c), .int (nI (We c)), .int (nI x), .int (pmo kr ts N l c x)] [] n k (wW w sr su ty sc (nI l.length)) Q := by
        intro h
        rw [if_pos h] at hq
        simp only [eX4_tellingCoin_70, eX4_tellingCoin_72, eX4_tellingCoin_74, eX4_tellingCoin_75, eX4_tellingCoin_77, eX4_tellingCoin_78, eX4_tellingCoin_78b, eX4_tellingCoin_78c, eX4_tellingCoin_78d, eX4_tellingCoin_79, eX4_tellingCoin_81, eX4_tellingCoin_81b, eX4_tellingCoin_81c, eX4_tellingCoin_81d, eX4_tellingCoin_82, eX4_tellingCoin_82b, eX4_tellingCoin_82c, eX4_tellingCoin_82d, eX4_tellingCoin_85, Option.toList_some, Option.toList_none, List.cons_append, List.nil_append, gcat_nil, gcat_cons, cat_int, cat_ref, cat_null, cat_ret, cat_long, grc_ref, narZ0, narZ1, true_and, and_true, decide_true, Nat.reduceAdd, Nat.reduceLeDiff, if_true, if_false, eq_self, gfld_in, gobj_in, garr_in, garq_in, glen_in, gisO_in, ex_some, List.getElem?_cons_succ, List.getElem?_cons_zero, List.length_cons, List.length_nil, List.set_cons_succ, List.set_cons_zero, Nat.reduceLT, va_up_eq, va_up_nl, e10, nI_1]
        exact ih (x + 1) (nI (10 * c + x), pmo kr ts N l c x) ty _ (by omega) hq
      simp only [eX4_tellingCoin_56, eX4_tellingCoin_56b, eX4_tellingCoin_56c, eX4_tellingCoin_56d, eX4_tellingCoin_58, eX4_tellingCoin_59, eX4_tellingCoin_61, Option.toList_some, Option.toList_none, List.cons_append, List.nil_append, gcat_nil, gcat_cons, cat_int, cat_ref, cat_null, cat_ret, cat_long, grc_ref, narZ0, narZ1, true_and, and_true, decide_true, Nat.reduceAdd, Nat.reduceLeDiff, if_true, if_false, eq_self, gfld_in, gobj_in, garr_in, garq_in, glen_in, gisO_in, ex_some, List.getElem?_cons_succ, List.getElem?_cons_zero, List.length_cons, List.length_nil, List.set_cons_succ, List.set_cons_zero, Nat.reduceLT, va_up_eq, va_up_nl]
      by_cases q : s.1 = -9
      · rw [if_pos q]
        exact yes (Or.inl q)
      · rw [if_neg q]
        simp only [eX4_tellingCoin_64, eX4_tellingCoin_66, eX4_tellingCoin_67, Option.toList_some, Option.toList_none, List.cons_append, List.nil_append, gcat_nil, gcat_cons, cat_int, cat_ref, cat_null, cat_ret, cat_long, grc_ref, narZ0, narZ1, true_and, and_true, decide_true, Nat.reduceAdd, Nat.reduceLeDiff, if_true, if_false, eq_self, gfld_in, gobj_in, garr_in, garq_in, glen_in, gisO_in, ex_some, List.getElem?_cons_succ, List.getElem?_cons_zero, List.length_cons, List.length_nil, List.set_cons_succ, List.set_cons_zero, Nat.reduceLT, va_up_eq, va_up_nl]
        by_cases q2 : s.2 ≤ pmo kr ts N l c x
        · rw [if_pos q2]
          rw [if_neg (fun z => z.elim q (Int32.not_lt.mpr q2))] at hq
          simp only [eX4_tellingCoin_82, eX4_tellingCoin_82b, eX4_tellingCoin_82c, eX4_tellingCoin_82d, eX4_tellingCoin_85, Option.toList_some, Option.toList_none, List.cons_append, List.nil_append, gcat_nil, gcat_cons, cat_int, cat_ref, cat_null, cat_ret, cat_long, grc_ref, narZ0, narZ1, true_and, and_true, decide_true, Nat.reduceAdd, Nat.reduceLeDiff, if_true, if_false, eq_self, gfld_in, gobj_in, garr_in, garq_in, glen_in, gisO_in, ex_some, List.getElem?_cons_succ, List.getElem?_cons_zero, List.length_cons, List.length_nil, List.set_cons_succ, List.set_cons_zero, Nat.reduceLT, va_up_eq, va_up_nl, nI_1]
          exact ih (x + 1) s ty _ (by omega) hq
        · rw [if_neg q2]
          exact yes (Or.inr (Int32.not_le.mp q2))
  have outer : ∀ (D c : Nat) (s : Int32 × Int32) (ty : Nat → Int32) (v5 v6 v7 : Value), c + D = K → (∀ ty, Q (some (.int (plk (fun c x => pmo kr ts N l c x) We c D s).1)) n k (wW w sr su ty sc (nI l.length))) → gEv (gT X) 82 19 [.ref 20, .ref 1, .int s.1, .int s.2, .int (nI c), v5, v6, v7] [] n k (wW w sr su ty sc (nI l.length)) Q := by
    intro D
    induction D with
    | zero =>
      intro c s ty v5 v6 v7 hc hq
      have hc1 : nI K ≤ nI c := nI_le (by omega) (by omega)
      rw [eX4_tellingCoin_19]
      simp only [eX4_tellingCoin_21, eX4_tellingCoin_22, eX4_tellingCoin_25, eX4_tellingCoin_94, eX4_tellingCoin_95, Option.toList_some, Option.toList_none, List.cons_append, List.nil_append, gcat_nil, gcat_cons, cat_int, cat_ref, cat_null, cat_ret, cat_long, grc_ref, narZ0, narZ1, true_and, and_true, decide_true, Nat.reduceAdd, Nat.reduceLeDiff, if_true, if_false, eq_self, gfld_in, gobj_in, garr_in, garq_in, glen_in, gisO_in, ex_some, List.getElem?_cons_succ, List.getElem?_cons_zero, List.length_cons, List.length_nil, List.set_cons_succ, List.set_cons_zero, Nat.reduceLT, va_up_eq, va_up_nl, wW_1 hT, hc1]
      exact hq _
    | succ D ih =>
      intro c s ty v5 v6 v7 hc hq
      have hc1 : ¬ nI K ≤ nI c := nI_ge (by omega) (by omega)
      have e3 : gof kr 30 (nI c * 5 + 3) = nI (We c) := by rw [nI5, nIp3, gof_at (by omega) (by omega), (hW c (by omega)).1]
      rw [eX4_tellingCoin_19]
      simp only [eX4_tellingCoin_21, eX4_tellingCoin_22, eX4_tellingCoin_25, eX4_tellingCoin_28, eX4_tellingCoin_29, eX4_tellingCoin_31, eX4_tellingCoin_32, eX4_tellingCoin_35, eX4_tellingCoin_35b, eX4_tellingCoin_35c, eX4_tellingCoin_35d, eX4_tellingCoin_37, eX4_tellingCoin_38, eX4_tellingCoin_38b, eX4_tellingCoin_38c, eX4_tellingCoin_38d, Option.toList_some, Option.toList_none, List.cons_append, List.nil_append, gcat_nil, gcat_cons, cat_int, cat_ref, cat_null, cat_ret, cat_long, grc_ref, narZ0, narZ1, true_and, and_true, decide_true, Nat.reduceAdd, Nat.reduceLeDiff, if_true, if_false, eq_self, gfld_in, gobj_in, garr_in, garq_in, glen_in, gisO_in, ex_some, List.getElem?_cons_succ, List.getElem?_cons_zero, List.length_cons, List.length_nil, List.set_cons_succ, List.set_cons_zero, Nat.reduceLT, va_up_eq, va_up_nl, wW_1 hT, hc1, c_ofKind (wW_tr hT), e3]
      refine inner c (by omega) (We c + 1) 0 s ty _ (by omega) ?_
      intro ty v6 v7 y5
      simp only [eX4_tellingCoin_88, eX4_tellingCoin_88b, eX4_tellingCoin_88c, eX4_tellingCoin_88d, eX4_tellingCoin_91, Option.toList_some, Option.toList_none, List.cons_append, List.nil_append, gcat_nil, gcat_cons, cat_int, cat_ref, cat_null, cat_ret, cat_long, grc_ref, narZ0, narZ1, true_and, and_true, decide_true, Nat.reduceAdd, Nat.reduceLeDiff, if_true, if_false, eq_self, gfld_in, gobj_in, garr_in, garq_in, glen_in, gisO_in, ex_some, List.getElem?_cons_succ, List.getElem?_cons_zero, List.length_cons, List.length_nil, List.set_cons_succ, List.set_cons_zero, Nat.reduceLT, va_up_eq, va_up_nl, nI_1]
      exact ih (c + 1) _ ty _ _ _ (by omega) hq
  unfold plo at hQ
  simp only [eX4_tellingCoin_0, eX4_tellingCoin_1, eX4_tellingCoin_4, eX4_tellingCoin_5, Option.toList_some, Option.toList_none, List.cons_append, List.nil_append, gcat_nil, gcat_cons, cat_int, cat_ref, cat_null, cat_ret, cat_long, grc_ref, narZ0, narZ1, true_and, and_true, decide_true, Nat.reduceAdd, Nat.reduceLeDiff, if_true, if_false, eq_self, gfld_in, gobj_in, garr_in, garq_in, glen_in, gisO_in, ex_some, List.getElem?_cons_succ, List.getElem?_cons_zero, List.length_cons, List.length_nil, List.set_cons_succ, List.set_cons_zero, Nat.reduceLT, va_up_eq, va_up_nl, wW_20]
  by_cases q : l.length ≤ 1
  · have hc : ¬ 1 < nI l.length := nI_nlt (a := 1) (by omega) (by omega)
    rw [if_neg hc]
    rw [if_pos q] at hQ
    simp only [eX4_tellingCoin_8, eX4_tellingCoin_10, Option.toList_some, Option.toList_none, List.cons_append, List.nil_append, gcat_nil, gcat_cons, cat_int, cat_ref, cat_null, cat_ret, cat_long, grc_ref, narZ0, narZ1, true_and, and_true, decide_true, Nat.reduceAdd, Nat.reduceLeDiff, if_true, if_false, eq_self, gfld_in, gobj_in, garr_in, garq_in, glen_in, gisO_in, ex_some, List.getElem?_cons_succ, List.getElem?_cons_zero, List.length_cons, List.length_nil, List.set_cons_succ, List.set_cons_zero, Nat.reduceLT, va_up_eq, va_up_nl]
    exact hQ _
  · have hc : 1 < nI l.length := nI_lt (a := 1) (by omega) (by omega)
    rw [if_pos hc]
    rw [if_neg q] at hQ
    simp only [eX4_tellingCoin_11, eX4_tellingCoin_13, eX4_tellingCoin_13b, eX4_tellingCoin_13c, eX4_tellingCoin_13d, eX4_tellingCoin_14, eX4_tellingCoin_15, eX4_tellingCoin_15b, eX4_tellingCoin_15c, eX4_tellingCoin_15d, eX4_tellingCoin_16, eX4_tellingCoin_17, eX4_tellingCoin_17b, eX4_tellingCoin_17c, eX4_tellingCoin_17d, Option.toList_some, Option.toList_none, List.cons_append, List.nil_append, gcat_nil, gcat_cons, cat_int, cat_ref, cat_null, cat_ret, cat_long, grc_ref, narZ0, narZ1, true_and, and_true, decide_true, Nat.reduceAdd, Nat.reduceLeDiff, if_true, if_false, eq_self, gfld_in, gobj_in, garr_in, garq_in, glen_in, gisO_in, ex_some, List.getElem?_cons_succ, List.getElem?_cons_zero, List.length_cons, List.length_nil, List.set_cons_succ, List.set_cons_zero, Nat.reduceLT, va_up_eq, va_up_nl]
    exact outer K 0 (-9, 0) ty _ _ _ (by omega) hQ
theorem c_firstSuspect (hl : l.length ≤ 13) (hg : gagu su l) : gEv (gT X) 81 0 [.ref 20] [] n k (wW w sr su ty sc (nI l.length)) Q ↔ Q (some (.int (mfs l))) n k (wW w sr su ty sc (nI l.length)) := by
  have v0 : vp_in 0 13 := vp_in_nI (n := 0) (by omega) (by omega)
  have y0 : (0 : Int32).toNatClampNeg = 0 := by decide
  unfold mfs
  simp only [eX4_firstSuspect_0, eX4_firstSuspect_1, eX4_firstSuspect_4, Option.toList_some, Option.toList_none, List.cons_append, List.nil_append, gcat_nil, gcat_cons, cat_int, cat_ref, cat_null, cat_ret, cat_long, grc_ref, narZ0, narZ1, true_and, and_true, decide_true, Nat.reduceAdd, Nat.reduceLeDiff, if_true, if_false, eq_self, gfld_in, gobj_in, garr_in, garq_in, glen_in, gisO_in, ex_some, List.getElem?_cons_succ, List.getElem?_cons_zero, List.length_cons, List.length_nil, List.set_cons_succ, List.set_cons_zero, Nat.reduceLT, va_up_eq, va_up_nl, wW_20]
  by_cases q : l.length = 0
  · rw [if_pos (show nI l.length ≤ 0 by rw [q]; decide), if_pos q]
    simp only [eX4_firstSuspect_16, eX4_firstSuspect_18, Option.toList_some, Option.toList_none, List.cons_append, List.nil_append, gcat_nil, gcat_cons, cat_int, cat_ref, cat_null, cat_ret, cat_long, grc_ref, narZ0, narZ1, true_and, and_true, decide_true, Nat.reduceAdd, Nat.reduceLeDiff, if_true, if_false, eq_self, gfld_in, gobj_in, garr_in, garq_in, glen_in, gisO_in, ex_some, List.getElem?_cons_succ, List.getElem?_cons_zero, List.length_cons, List.length_nil, List.set_cons_succ, List.set_cons_zero, Nat.reduceLT, va_up_eq, va_up_nl]
  · rw [if_neg (nI_nle (by omega) (by omega)), if_neg q]
    simp only [eX4_firstSuspect_7, eX4_firstSuspect_8, eX4_firstSuspect_11, eX4_firstSuspect_12, eX4_firstSuspect_13, eX4_firstSuspect_18, Option.toList_some, Option.toList_none, List.cons_append, List.nil_append, gcat_nil, gcat_cons, cat_int, cat_ref, cat_null, cat_ret, cat_long, grc_ref, narZ0, narZ1, true_and, and_true, decide_true, Nat.reduceAdd, Nat.reduceLeDiff, if_true, if_false, eq_self, gfld_in, gobj_in, garr_in, garq_in, glen_in, gisO_in, ex_some, List.getElem?_cons_succ, List.getElem?_cons_zero, List.length_cons, List.length_nil, List.set_cons_succ, List.set_cons_zero, Nat.reduceLT, va_up_eq, va_up_nl, wW_20, wW_22, v0, y0, hg 0 (by omega)]
end WD
