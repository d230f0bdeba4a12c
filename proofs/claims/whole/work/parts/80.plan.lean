/-! THE PLANNER: what it answers -/
def pvx (st : Nat → Nat) (c : Nat) : Nat → Nat → Option Nat → List (Nat × Nat)
  | _, 0, _ => []
  | x, D + 1, b => if some (st x) = b then pvx st c (x + 1) D b else (c, st x) :: pvx st c (x + 1) D (some (st x))
def pvs (st : Nat → Nat → Nat) (We : Nat → Nat) : Nat → Nat → List (Nat × Nat)
  | _, 0 => []
  | c, D + 1 => pvx (st c) c 0 (We c + 1) none ++ pvs st We (c + 1) D
def pbf (b : Option Nat) : Int32 := match b with
  | none => -9
  | some m => nI m
theorem pbf_eq {b : Option Nat} {m : Nat} (hm : m < 64) (hb : ∀ z, b = some z → z < 64) : (nI m = pbf b) ↔ some m = b := by
  cases b with
  | none =>
    constructor
    · intro z
      exfalso
      have h1 := congrArg Int32.toInt z
      rw [nI_toInt (by omega)] at h1
      have h2 : (pbf none).toInt = -9 := by decide
      omega
    · intro z; cases z
  | some z =>
    have := hb z rfl
    show (nI m = nI z) ↔ some m = some z
    rw [nI_eq (by omega) (by omega)]
    exact ⟨fun h => by rw [h], fun h => Option.some.inj h⟩
theorem pvx_len (st : Nat → Nat) (c : Nat) : ∀ (D x : Nat) (b : Option Nat), (pvx st c x D b).length ≤ D := by
  intro D
  induction D with
  | zero => intro x b; exact Nat.le_refl _
  | succ D ih =>
    intro x b
    rw [pvx]
    by_cases q : some (st x) = b
    · rw [if_pos q]; have := ih (x + 1) b; omega
    · rw [if_neg q, List.length_cons]; have := ih (x + 1) (some (st x)); omega
def gVag (vk vs : Nat → Int32) (V : List (Nat × Nat)) : Prop := ∀ i, i < V.length → vk i = nI (V.getD i (0, 0)).1 ∧ vs i = nI (V.getD i (0, 0)).2 ∧ (V.getD i (0, 0)).1 < 6 ∧ (V.getD i (0, 0)).2 < 64
theorem gVag_app {vk vs : Nat → Int32} {V : List (Nat × Nat)} {c m : Nat} (h : gVag vk vs V) (hc : c < 6) (hm : m < 64) : gVag (upd vk V.length (nI c)) (upd vs V.length (nI m)) (V ++ [(c, m)]) := by
  intro i hi
  rw [List.length_append, List.length_singleton] at hi
  by_cases q : i = V.length
  · subst q
    rw [List.getD_eq_getElem?_getD, List.getElem?_append_right (Nat.le_refl _), Nat.sub_self]
    simp [upd, hc, hm]
  · rw [List.getD_eq_getElem?_getD, List.getElem?_append_left (by omega), ← List.getD_eq_getElem?_getD]
    have := h i (by omega)
    simp only [upd, q, if_false]
    exact this
section PD
variable {X : gX} {n k : Nat} {w : gH} {Q : Option Value → Nat → Nat → gH → Prop} {vk vs rp nt : Nat → Int32} {V : List (Nat × Nat)} {kr ts co : Nat → Int32} {rm jm : Int32} {K N : Nat} {We : Nat → Nat} {sh : Nat → Nat}
theorem c_appendVariety (hl : V.length < 60) {c m : Int32} : gEv (gT X) 15 0 [.ref 15, .int c, .int m] [] n k (pW w vk vs (nI V.length) rp nt) Q ↔ Q none n k (pW w (upd vk V.length c) (upd vs V.length m) (nI (V.length + 1)) rp nt) := by
  have hc : ¬ Int32.ofNat 60 ≤ nI V.length := nI_ge (a := V.length) (b := 60) (by omega) (by omega)
  have v : vp_in (nI V.length) 60 := vp_in_nI (by omega) (by omega)
  simp only [eX1_appendVariety_0, eX1_appendVariety_1, eX1_appendVariety_4, eX1_appendVariety_5, eX1_appendVariety_8, eX1_appendVariety_9, eX1_appendVariety_12, eX1_appendVariety_13, eX1_appendVariety_16, eX1_appendVariety_17, eX1_appendVariety_20, eX1_appendVariety_21, eX1_appendVariety_24, eX1_appendVariety_25, eX1_appendVariety_28, eX1_appendVariety_29, eX1_appendVariety_32, eX1_appendVariety_33, eX1_appendVariety_34, eX1_appendVariety_35, eX1_appendVariety_38, eX1_appendVariety_39, eX1_appendVariety_42, eX1_appendVariety_43, eX1_appendVariety_44, eX1_appendVariety_45, eX1_appendVariety_45b, eX1_appendVariety_46, eX1_appendVariety_49, eX1_appendVariety_50, eX1_appendVariety_51, eX1_appendVariety_54, Option.toList_some, Option.toList_none, List.cons_append, List.nil_append, gcat_nil, gcat_cons, cat_int, cat_ref, cat_null, cat_ret, cat_long, grc_ref, narZ0, narZ1, true_and, and_true, decide_true, Nat.reduceAdd, Nat.reduceLeDiff, if_true, if_false, eq_self, gfld_in, gobj_in, garr_in, garq_in, glen_in, gisO_in, ex_some, List.getElem?_cons_succ, List.getElem?_cons_zero, List.length_cons, List.length_nil, List.set_cons_succ, List.set_cons_zero, Nat.reduceLT, va_up_eq, va_up_nl, pW_15, pW_16, pW_17, hc, v, nI_clamp (show V.length < 2 ^ 31 by omega), pW_p16, pW_p17, pW_p15, nI_1]
/-- the stops of a coin, as a set -/
def pst (kr ts : Nat → Int32) (N c x : Nat) : Nat := bset (fun j => gfall (ts (3 * j)) (ts (3 * j + 1)) 0 (kr (5 * c)) (kr (5 * c + 1) - nI x) (kr (5 * c + 2)) = true) 0 N 0
theorem pst_lt (hN : N ≤ 6) (c x : Nat) : pst kr ts N c x < 64 := bset_lt (m := 6) _ N 0 0 (by omega) (by omega)
theorem c_study (hT : isTr w 1 kr ts co (nI K) (nI N) rm jm) (hK : K ≤ 6) (hN : N ≤ 6) (hW : ∀ c, c < K → kr (5 * c + 3) = nI (We c) ∧ We c < 10) {vc : Int32} (hQ : ∀ vk vs, gVV vk vs (pvs (pst kr ts N) We 0 K) → Q none n k (pW w vk vs (nI (pvs (pst kr ts N) We 0 K).length) rp nt)) : gEv (gT X) 14 0 [.ref 15, .ref 1, .null, .null, .null, .null, .null] [] n k (pW w vk vs vc rp nt) Q := by
  have inner : ∀ (c : Nat), c < K → ∀ (D x : Nat) (b : Option Nat) (V : List (Nat × Nat)) (vk vs : Nat → Int32) (v6 : Value), x + D = We c + 1 → V.length + D ≤ 60 → (∀ z, b = some z → z < 64) → gVag vk vs V → (∀ vk vs (v4 v6 : Int32) (v5 : Value), gVag vk vs (V ++ pvx (pst kr ts N c) c x D b) → ∀ v6', gEv (gT X) 14 68 [.ref 15, .ref 1, .int (nI c), .int (nI (We c)), .int v4, v5, v6'] [] n k (pW w vk vs (nI (V ++ pvx (pst kr ts N c) c x D b).length) rp nt) Q) → gEv (gT X) 14 29 [.ref 15, .ref 1, .int (nI c), .int (nI (We c)), .int (pbf b), .int (nI x), v6] [] n k (pW w vk vs (nI V.length) rp nt) Q := by
    intro c hc D
    obtain ⟨hw1, hw2⟩ := hW c hc
    induction D with
    | zero =>
      intro x b V vk vs v6 hx hl hb hg hq
      have hc1 : nI (We c) < nI x := nI_lt (by omega) (by omega)
      have := hq vk vs (pbf b) 0 (.int (nI x))
      rw [pvx, List.append_nil] at this
      rw [eX1_study_29]
      simp only [eX1_study_31, eX1_study_32, Option.toList_some, Option.toList_none, List.cons_append, List.nil_append, gcat_nil, gcat_cons, cat_int, cat_ref, cat_null, cat_ret, cat_long, grc_ref, narZ0, narZ1, true_and, and_true, decide_true, Nat.reduceAdd, Nat.reduceLeDiff, if_true, if_false, eq_self, gfld_in, gobj_in, garr_in, garq_in, glen_in, gisO_in, ex_some, List.getElem?_cons_succ, List.getElem?_cons_zero, List.length_cons, List.length_nil, List.set_cons_succ, List.set_cons_zero, Nat.reduceLT, va_up_eq, va_up_nl, hc1]
      exact this hg v6
    | succ D ih =>
      intro x b V vk vs v6 hx hl hb hg hq
      have hc1 : ¬ nI (We c) < nI x := nI_nlt (by omega) (by omega)
      have hp := pst_lt (kr := kr) (ts := ts) hN c x
      have e0 : gof kr 30 (nI c * 5 + 0) = kr (5 * c) := by rw [nI5, nIp0, gof_at (by omega) (by omega)]
      have e1 : gof kr 30 (nI c * 5 + 1) = kr (5 * c + 1) := by rw [nI5, nI_1, gof_at (by omega) (by omega)]
      have e2 : gof kr 30 (nI c * 5 + 2) = kr (5 * c + 2) := by rw [nI5, nIp2, gof_at (by omega) (by omega)]
      have es : gst ts N (kr (5 * c)) (kr (5 * c + 1) - nI x) (kr (5 * c + 2)) = nI (pst kr ts N c x) := gst_nI hN
      have hbe := pbf_eq (b := b) hp hb
      rw [pvx] at hq
      rw [eX1_study_29]
      simp only [eX1_study_31, eX1_study_32, eX1_study_35, eX1_study_36, eX1_study_37, eX1_study_39, eX1_study_42, eX1_study_42b, eX1_study_42c, eX1_study_42d, eX1_study_44, eX1_study_46, eX1_study_48, Option.toList_some, Option.toList_none, List.cons_append, List.nil_append, gcat_nil, gcat_cons, cat_int, cat_ref, cat_null, cat_ret, cat_long, grc_ref, narZ0, narZ1, true_and, and_true, decide_true, Nat.reduceAdd, Nat.reduceLeDiff, if_true, if_false, eq_self, gfld_in, gobj_in, garr_in, garq_in, glen_in, gisO_in, ex_some, List.getElem?_cons_succ, List.getElem?_cons_zero, List.length_cons, List.length_nil, List.set_cons_succ, List.set_cons_zero, Nat.reduceLT, va_up_eq, va_up_nl, hc1, pW_1 hT, c_stopsOf hN (pW_tr hT), e0, e1, e2, es, hbe]
      by_cases q : some (pst kr ts N c x) = b
      · rw [if_pos q]
        rw [if_pos q] at hq
        simp only [eX1_study_58, eX1_study_60, eX1_study_60b, eX1_study_60c, eX1_study_60d, eX1_study_62, eX1_study_62b, eX1_study_62c, eX1_study_62d, eX1_study_65, Option.toList_some, Option.toList_none, List.cons_append, List.nil_append, gcat_nil, gcat_cons, cat_int, cat_ref, cat_null, cat_ret, cat_long, grc_ref, narZ0, narZ1, true_and, and_true, decide_true, Nat.reduceAdd, Nat.reduceLeDiff, if_true, if_false, eq_self, gfld_in, gobj_in, garr_in, garq_in, glen_in, gisO_in, ex_some, List.getElem?_cons_succ, List.getElem?_cons_zero, List.length_cons, List.length_nil, List.set_cons_succ, List.set_cons_zero, Nat.reduceLT, va_up_eq, va_up_nl, nI_1]
        have eb : nI (pst kr ts N c x) = pbf b := by rw [← q]; rfl
        rw [eb]
        exact ih (x + 1) b V vk vs _ (by omega) (by omega) hb hg hq
      · rw [if_neg q]
        rw [if_neg q] at hq
        simp only [eX1_study_51, eX1_study_52, eX1_study_53, eX1_study_55, eX1_study_58, eX1_study_60, eX1_study_60b, eX1_study_60c, eX1_study_60d, eX1_study_62, eX1_study_62b, eX1_study_62c, eX1_study_62d, eX1_study_65, Option.toList_some, Option.toList_none, List.cons_append, List.nil_append, gcat_nil, gcat_cons, cat_int, cat_ref, cat_null, cat_ret, cat_long, grc_ref, narZ0, narZ1, true_and, and_true, decide_true, Nat.reduceAdd, Nat.reduceLeDiff, if_true, if_false, eq_self, gfld_in, gobj_in, garr_in, garq_in, glen_in, gisO_in, ex_some, List.getElem?_cons_succ, List.getElem?_cons_zero, List.length_cons, List.length_nil, List.set_cons_succ, List.set_cons_zero, Nat.reduceLT, va_up_eq, va_up_nl, pW_15, c_appendVariety (show V.length < 60 by omega), nI_1]
        have h := ih (x + 1) (some (pst kr ts N c x)) (V ++ [(c, pst kr ts N c x)]) (upd vk V.length (nI c)) (upd vs V.length (nI (pst kr ts N c x))) (.int (nI (pst kr ts N c x))) (by omega) (by rw [List.length_append, List.length_singleton]; omega) (fun z hz => by cases hz; exact hp) (gVag_app hg (by omega) hp)
        rw [List.append_assoc, List.singleton_append, show (V ++ [(c, pst kr ts N c x)]).length = V.length + 1 by rw [List.length_append, List.length_singleton]] at h
        exact h hq
  have outer : ∀ (D c : Nat) (V : List (Nat × Nat)) (vk vs : Nat → Int32) (v3 v4 v5 v6 : Value), c + D = K → V.length + 10 * D ≤ 60 → gVag vk vs V → (∀ vk vs, gVag vk vs (V ++ pvs (pst kr ts N) We c D) → Q none n k (pW w vk vs (nI (V ++ pvs (pst kr ts N) We c D).length) rp nt)) → gEv (gT X) 14 7 [.ref 15, .ref 1, .int (nI c), v3, v4, v5, v6] [] n k (pW w vk vs (nI V.length) rp nt) Q := by
    intro D
    induction D with
    | zero =>
      intro c V vk vs v3 v4 v5 v6 hc hl hg hq
      have hc1 : nI K ≤ nI c := nI_le (by omega) (by omega)
      rw [eX1_study_7]
      simp only [eX1_study_8, eX1_study_9, eX1_study_12, eX1_study_74, Option.toList_some, Option.toList_none, List.cons_append, List.nil_append, gcat_nil, gcat_cons, cat_int, cat_ref, cat_null, cat_ret, cat_long, grc_ref, narZ0, narZ1, true_and, and_true, decide_true, Nat.reduceAdd, Nat.reduceLeDiff, if_true, if_false, eq_self, gfld_in, gobj_in, garr_in, garq_in, glen_in, gisO_in, ex_some, List.getElem?_cons_succ, List.getElem?_cons_zero, List.length_cons, List.length_nil, List.set_cons_succ, List.set_cons_zero, Nat.reduceLT, va_up_eq, va_up_nl, pW_1 hT, hc1]
      have := hq vk vs
      rw [pvs, List.append_nil] at this
      exact this hg
    | succ D ih =>
      intro c V vk vs v3 v4 v5 v6 hc hl hg hq
      have hc1 : ¬ nI K ≤ nI c := nI_ge (by omega) (by omega)
      obtain ⟨hw1, hw2⟩ := hW c (by omega)
      have e3 : gof kr 30 (nI c * 5 + 3) = nI (We c) := by rw [nI5, nIp3, gof_at (by omega) (by omega), hw1]
      have hlen := pvx_len (pst kr ts N c) c (We c + 1) 0 none
      rw [eX1_study_7]
      simp only [eX1_study_8, eX1_study_9, eX1_study_12, eX1_study_15, eX1_study_16, eX1_study_17, eX1_study_18, eX1_study_21, eX1_study_21b, eX1_study_21c, eX1_study_21d, eX1_study_22, eX1_study_24, eX1_study_24b, eX1_study_24c, eX1_study_24d, eX1_study_26, eX1_study_27, eX1_study_27b, eX1_study_27c, eX1_study_27d, Option.toList_some, Option.toList_none, List.cons_append, List.nil_append, gcat_nil, gcat_cons, cat_int, cat_ref, cat_null, cat_ret, cat_long, grc_ref, narZ0, narZ1, true_and, and_true, decide_true, Nat.reduceAdd, Nat.reduceLeDiff, if_true, if_false, eq_self, gfld_in, gobj_in, garr_in, garq_in, glen_in, gisO_in, ex_some, List.getElem?_cons_succ, List.getElem?_cons_zero, List.length_cons, List.length_nil, List.set_cons_succ, List.set_cons_zero, Nat.reduceLT, va_up_eq, va_up_nl, pW_1 hT, hc1, c_ofKind (pW_tr hT), e3]
      refine inner c (by omega) (We c + 1) 0 none V vk vs _ (by omega) (by omega) (fun z hz => by cases hz) hg ?_
      intro vk vs v4 v6 v5 hg2 v6'
      simp only [eX1_study_68, eX1_study_68b, eX1_study_68c, eX1_study_68d, eX1_study_71, Option.toList_some, Option.toList_none, List.cons_append, List.nil_append, gcat_nil, gcat_cons, cat_int, cat_ref, cat_null, cat_ret, cat_long, grc_ref, narZ0, narZ1, true_and, and_true, decide_true, Nat.reduceAdd, Nat.reduceLeDiff, if_true, if_false, eq_self, gfld_in, gobj_in, garr_in, garq_in, glen_in, gisO_in, ex_some, List.getElem?_cons_succ, List.getElem?_cons_zero, List.length_cons, List.length_nil, List.set_cons_succ, List.set_cons_zero, Nat.reduceLT, va_up_eq, va_up_nl, nI_1]
      rw [pvs, ← List.append_assoc] at hq
      exact ih (c + 1) _ vk vs _ _ _ _ (by omega) (by rw [List.length_append]; omega) hg2 hq
  have h0 := outer K 0 [] vk vs .null .null .null .null (by omega) (by rw [List.length_nil]; omega) (fun i hi => absurd hi (by simp)) (fun vk vs h => by
    rw [List.nil_append] at h ⊢
    refine hQ vk vs ⟨?_, h⟩
    have hlen : ∀ (D c : Nat), c + D ≤ K → (pvs (pst kr ts N) We c D).length ≤ 10 * D := by
      intro D
      induction D with
      | zero => intro c _; exact Nat.le_refl _
      | succ D ih =>
        intro c hc
        have h1 := ih (c + 1) (by omega)
        have h2 := pvx_len (pst kr ts N c) c (We c + 1) 0 none
        have h3 := (hW c (by omega)).2
        rw [pvs, List.length_append]
        omega
    have := hlen K 0 (by omega)
    omega)
  rw [List.length_nil, nI_0] at h0
  simp only [eX1_study_0, eX1_study_1, eX1_study_2, eX1_study_5, eX1_study_6, eX1_study_6b, eX1_study_6c, eX1_study_6d, Option.toList_some, Option.toList_none, List.cons_append, List.nil_append, gcat_nil, gcat_cons, cat_int, cat_ref, cat_null, cat_ret, cat_long, grc_ref, narZ0, narZ1, true_and, and_true, decide_true, Nat.reduceAdd, Nat.reduceLeDiff, if_true, if_false, eq_self, gfld_in, gobj_in, garr_in, garq_in, glen_in, gisO_in, ex_some, List.getElem?_cons_succ, List.getElem?_cons_zero, List.length_cons, List.length_nil, List.set_cons_succ, List.set_cons_zero, Nat.reduceLT, va_up_eq, va_up_nl, pW_15, pW_p15]
  exact h0
def pdp (V : List (Nat × Nat)) (co : Nat → Int32) (sh : Nat → Nat) (K N : Nat) : Nat → Nat → (Nat → Int32) × (Nat → Int32) → (Nat → Int32) × (Nat → Int32) := gfor (fun i s => ppb V co sh K N (2 ^ N - 1 - i) s)
theorem c_plan (hT : isTr w 1 kr ts co (nI K) (nI N) rm jm) (hK : K ≤ 6) (hN : N ≤ 6) (hW : ∀ c, c < K → kr (5 * c + 3) = nI (We c) ∧ We c < 10) (hS : ∀ c, c < K → kr (5 * c + 4) = nI (sh c)) {vc : Int32} (hQ : ∀ vk vs vc, Q (some (.int ((pdp (pvs (pst kr ts N) We 0 K) (fun t => ts (3 * t + 2)) sh K N 0 (2 ^ N) (rp, nt)).1 0))) n k (pW w vk vs vc (pdp (pvs (pst kr ts N) We 0 K) (fun t => ts (3 * t + 2)) sh K N 0 (2 ^ N) (rp, nt)).1 (pdp (pvs (pst kr ts N) We 0 K) (fun t => ts (3 * t + 2)) sh K N 0 (2 ^ N) (rp, nt)).2)) : gEv (gT X) 18 0 [.ref 15, .ref 1, .null, .null] [] n k (pW w vk vs vc rp nt) Q := by
  have h64 := gp2_64 hN
  have hpos : 0 < 2 ^ N := Nat.pow_pos (by omega)
  simp only [eX1_plan_0, eX1_plan_1, eX1_plan_2, Option.toList_some, Option.toList_none, List.cons_append, List.nil_append, gcat_nil, gcat_cons, cat_int, cat_ref, cat_null, cat_ret, cat_long, grc_ref, narZ0, narZ1, true_and, and_true, decide_true, Nat.reduceAdd, Nat.reduceLeDiff, if_true, if_false, eq_self, gfld_in, gobj_in, garr_in, garq_in, glen_in, gisO_in, ex_some, List.getElem?_cons_succ, List.getElem?_cons_zero, List.length_cons, List.length_nil, List.set_cons_succ, List.set_cons_zero, Nat.reduceLT, va_up_eq, va_up_nl, pW_15]
  refine c_study hT hK hN hW ?_
  intro vk vs hV
  generalize pvs (pst kr ts N) We 0 K = V at *
  have loop : ∀ (D i : Nat) (rp nt : Nat → Int32), i + D = 2 ^ N → (∀ vk vs vc, Q (some (.int ((pdp V (fun t => ts (3 * t + 2)) sh K N i D (rp, nt)).1 0))) n k (pW w vk vs vc (pdp V (fun t => ts (3 * t + 2)) sh K N i D (rp, nt)).1 (pdp V (fun t => ts (3 * t + 2)) sh K N i D (rp, nt)).2)) → gEv (gT X) 18 21 [.ref 15, .ref 1, .int (nI (2 ^ N - 1)), .int (nI D - 1)] [] n k (pW w vk vs (nI V.length) rp nt) Q := by
    intro D
    induction D with
    | zero =>
      intro i rp nt hi hq
      have e : nI 0 - 1 = -1 := by decide
      have c1 : (-1 : Int32) < 0 := by decide
      have v0 : vp_in 0 64 := vp_in_nI (n := 0) (by omega) (by omega)
      have y0 : (0 : Int32).toNatClampNeg = 0 := by decide
      rw [eX1_plan_21]
      simp only [eX1_plan_22, eX1_plan_38, eX1_plan_39, eX1_plan_42, eX1_plan_43, eX1_plan_44, Option.toList_some, Option.toList_none, List.cons_append, List.nil_append, gcat_nil, gcat_cons, cat_int, cat_ref, cat_null, cat_ret, cat_long, grc_ref, narZ0, narZ1, true_and, and_true, decide_true, Nat.reduceAdd, Nat.reduceLeDiff, if_true, if_false, eq_self, gfld_in, gobj_in, garr_in, garq_in, glen_in, gisO_in, ex_some, List.getElem?_cons_succ, List.getElem?_cons_zero, List.length_cons, List.length_nil, List.set_cons_succ, List.set_cons_zero, Nat.reduceLT, va_up_eq, va_up_nl, e, c1, pW_15, pW_18, v0, y0]
      exact hq _ _ _
    | succ D ih =>
      intro i rp nt hi hq
      have e : nI (D + 1) - 1 = nI D := nI_pred D
      have c1 : ¬ nI D < 0 := nI_pos (by omega)
      have e4 : nI D + -1 = nI D - 1 := (Int32.sub_eq_add_neg _ _).symm
      have ep : pdp V (fun t => ts (3 * t + 2)) sh K N i (D + 1) (rp, nt) = pdp V (fun t => ts (3 * t + 2)) sh K N (i + 1) D (ppb V (fun t => ts (3 * t + 2)) sh K N (2 ^ N - 1 - i) (rp, nt)) := rfl
      rw [ep, show 2 ^ N - 1 - i = D by omega] at hq
      rw [eX1_plan_21]
      simp only [eX1_plan_22, eX1_plan_25, eX1_plan_26, eX1_plan_27, eX1_plan_28, eX1_plan_29, eX1_plan_32, eX1_plan_32b, eX1_plan_32c, eX1_plan_32d, eX1_plan_35, Option.toList_some, Option.toList_none, List.cons_append, List.nil_append, gcat_nil, gcat_cons, cat_int, cat_ref, cat_null, cat_ret, cat_long, grc_ref, narZ0, narZ1, true_and, and_true, decide_true, Nat.reduceAdd, Nat.reduceLeDiff, if_true, if_false, eq_self, gfld_in, gobj_in, garr_in, garq_in, glen_in, gisO_in, ex_some, List.getElem?_cons_succ, List.getElem?_cons_zero, List.length_cons, List.length_nil, List.set_cons_succ, List.set_cons_zero, Nat.reduceLT, va_up_eq, va_up_nl, e, c1, pW_15, c_planBehind hV hT hK hN hS (show D < 2 ^ N by omega), e4]
      exact ih (i + 1) _ _ (by omega) hq
  have emin : (if (64 : Int32) < nI (2 ^ N) then 64 else nI (2 ^ N)) = nI (2 ^ N) := by
    have hc : ¬ (64 : Int32) < nI (2 ^ N) := nI_nlt (a := 64) (by omega) (by omega)
    rw [if_neg hc]
  have e1 : nI (2 ^ N) - 1 = nI (2 ^ N - 1) := by
    rw [show 2 ^ N = 2 ^ N - 1 + 1 by omega, nI_pred]; rfl
  have h := loop (2 ^ N) 0 rp nt (by omega) hQ
  rw [e1] at h
  simp only [eX1_plan_5, eX1_plan_6, eX1_plan_7, eX1_plan_10, eX1_plan_11, eX1_plan_13, eX1_plan_16, eX1_plan_17, eX1_plan_18, eX1_plan_18b, eX1_plan_18c, eX1_plan_18d, eX1_plan_19, eX1_plan_20, eX1_plan_20b, eX1_plan_20c, eX1_plan_20d, Option.toList_some, Option.toList_none, List.cons_append, List.nil_append, gcat_nil, gcat_cons, cat_int, cat_ref, cat_null, cat_ret, cat_long, grc_ref, narZ0, narZ1, true_and, and_true, decide_true, Nat.reduceAdd, Nat.reduceLeDiff, if_true, if_false, eq_self, gfld_in, gobj_in, garr_in, garq_in, glen_in, gisO_in, ex_some, List.getElem?_cons_succ, List.getElem?_cons_zero, List.length_cons, List.length_nil, List.set_cons_succ, List.set_cons_zero, Nat.reduceLT, va_up_eq, va_up_nl, pW_1 hT, gp2 hN, emin, e1]
  exact h
/-- the set passed when so many tests of the plan are passed -/
def ppl (nt : Nat → Int32) (Z : Nat → Nat) : Nat → Nat → Nat
  | 0, p => p
  | D + 1, p => ppl nt Z D (p ||| 2 ^ Z p)
theorem c_testBehind {vc : Int32} {p : Nat} (hp : p < 64) : gEv (gT X) 25 0 [.ref 15, .int (nI p)] [] n k (pW w vk vs vc rp nt) Q ↔ Q (some (.int (nt p))) n k (pW w vk vs vc rp nt) := by
  have e64 : Int32.ofNat 64 = 64 := by decide
  have c0 : ¬ nI p < 0 := Int32.not_lt.mpr (nI_pos' (by omega))
  have c6 : ¬ 64 ≤ nI p := nI_ge (b := 64) (by omega) (by omega)
  have v : vp_in (nI p) 64 := vp_in_nI (by omega) (by omega)
  simp only [eX1_testBehind_0, eX1_testBehind_1, eX1_testBehind_4, eX1_testBehind_5, eX1_testBehind_6, eX1_testBehind_9, eX1_testBehind_10, eX1_testBehind_13, eX1_testBehind_14, eX1_testBehind_17, eX1_testBehind_18, eX1_testBehind_19, eX1_testBehind_22, eX1_testBehind_23, Option.toList_some, Option.toList_none, List.cons_append, List.nil_append, gcat_nil, gcat_cons, cat_int, cat_ref, cat_null, cat_ret, cat_long, grc_ref, narZ0, narZ1, true_and, and_true, decide_true, Nat.reduceAdd, Nat.reduceLeDiff, if_true, if_false, eq_self, gfld_in, gobj_in, garr_in, garq_in, glen_in, gisO_in, ex_some, List.getElem?_cons_succ, List.getElem?_cons_zero, List.length_cons, List.length_nil, List.set_cons_succ, List.set_cons_zero, Nat.reduceLT, va_up_eq, va_up_nl, pW_15, pW_19, c0, e64, c6, v, nI_clamp (show p < 2 ^ 31 by omega)]
theorem c_placed (hT : isTr w 1 kr ts co (nI K) (nI N) rm jm) (hN : N ≤ 6) {Z : Nat → Nat} (hZ : ∀ p, p < 2 ^ N → p ≠ 2 ^ N - 1 → nt p = nI (Z p) ∧ Z p < N) {i : Nat} (hi : i < N) (hfull : ∀ j, j ≤ i → ppl nt Z j 0 < 2 ^ N ∧ ppl nt Z j 0 ≠ 2 ^ N - 1) {vc : Int32} : gEv (gT X) 24 0 [.ref 15, .ref 1, .int (nI i), .null, .null] [] n k (pW w vk vs vc rp nt) Q ↔ Q (some (.int (nI (Z (ppl nt Z i 0))))) n k (pW w vk vs vc rp nt) := by
  have h64 := gp2_64 hN
  have hst : ∀ (D p : Nat), ppl nt Z (D + 1) p = ppl nt Z D p ||| 2 ^ Z (ppl nt Z D p) := by
    intro D
    induction D with
    | zero => intro p; rfl
    | succ D ih => intro p; rw [ppl, ih]; rfl
  have hin : 0 ≤ nI i ∧ nI i < nI N := ⟨nI_pos' (by omega), nI_lt hi (by omega)⟩
  have loop : ∀ (D j : Nat), j + D = i → (gEv (gT X) 24 16 [.ref 15, .ref 1, .int (nI i), .int (nI (ppl nt Z j 0)), .int (nI j)] [] n k (pW w vk vs vc rp nt) Q ↔ Q (some (.int (nI (Z (ppl nt Z i 0))))) n k (pW w vk vs vc rp nt)) := by
    intro D
    induction D with
    | zero =>
      intro j hj
      have hc : nI i ≤ nI j := nI_le (by omega) (by omega)
      obtain ⟨h1, h2⟩ := hfull j (by omega)
      have hcb : ∀ {Q : Option Value → Nat → Nat → gH → Prop}, gEv (gT X) 25 0 [.ref 15, .int (nI (ppl nt Z j 0))] [] n k (pW w vk vs vc rp nt) Q ↔ Q (some (.int (nt (ppl nt Z j 0)))) n k (pW w vk vs vc rp nt) := by intros; exact c_testBehind (by omega)
      rw [eX1_placed_16]
      simp only [eX1_placed_18, eX1_placed_19, eX1_placed_38, eX1_placed_39, eX1_placed_40, eX1_placed_43, Option.toList_some, Option.toList_none, List.cons_append, List.nil_append, gcat_nil, gcat_cons, cat_int, cat_ref, cat_null, cat_ret, cat_long, grc_ref, narZ0, narZ1, true_and, and_true, decide_true, Nat.reduceAdd, Nat.reduceLeDiff, if_true, if_false, eq_self, gfld_in, gobj_in, garr_in, garq_in, glen_in, gisO_in, ex_some, List.getElem?_cons_succ, List.getElem?_cons_zero, List.length_cons, List.length_nil, List.set_cons_succ, List.set_cons_zero, Nat.reduceLT, va_up_eq, va_up_nl, hc, pW_15, hcb, nI_clamp (show ppl nt Z j 0 < 2 ^ 31 by omega), (hZ _ h1 h2).1]
      rw [show j = i by omega]
    | succ D ih =>
      intro j hj
      have hc : ¬ nI i ≤ nI j := nI_ge (by omega) (by omega)
      obtain ⟨h1, h2⟩ := hfull j (by omega)
      have hcb : ∀ {Q : Option Value → Nat → Nat → gH → Prop}, gEv (gT X) 25 0 [.ref 15, .int (nI (ppl nt Z j 0))] [] n k (pW w vk vs vc rp nt) Q ↔ Q (some (.int (nt (ppl nt Z j 0)))) n k (pW w vk vs vc rp nt) := by intros; exact c_testBehind (by omega)
      obtain ⟨z1, z2⟩ := hZ _ h1 h2
      rw [eX1_placed_16]
      simp only [eX1_placed_18, eX1_placed_19, eX1_placed_22, eX1_placed_23, eX1_placed_24, eX1_placed_25, eX1_placed_26, eX1_placed_29, eX1_placed_30, eX1_placed_31, eX1_placed_31b, eX1_placed_31c, eX1_placed_31d, eX1_placed_32, eX1_placed_32b, eX1_placed_32c, eX1_placed_32d, eX1_placed_35, Option.toList_some, Option.toList_none, List.cons_append, List.nil_append, gcat_nil, gcat_cons, cat_int, cat_ref, cat_null, cat_ret, cat_long, grc_ref, narZ0, narZ1, true_and, and_true, decide_true, Nat.reduceAdd, Nat.reduceLeDiff, if_true, if_false, eq_self, gfld_in, gobj_in, garr_in, garq_in, glen_in, gisO_in, ex_some, List.getElem?_cons_succ, List.getElem?_cons_zero, List.length_cons, List.length_nil, List.set_cons_succ, List.set_cons_zero, Nat.reduceLT, va_up_eq, va_up_nl, hc, pW_15, hcb, nI_clamp (show ppl nt Z j 0 < 2 ^ 31 by omega), z1, nI_shl _ (show Z (ppl nt Z j 0) < 8 by omega), nI_or, nI_1]
      rw [← hst]
      exact ih (j + 1) (by omega)
  have h10 : ¬ (1 : Int32) = 0 := by decide
  have h0 := loop i 0 (by omega)
  simp only [eX1_placed_0, eX1_placed_1, eX1_placed_2, eX1_placed_5, eX1_placed_11, eX1_placed_12, eX1_placed_12b, eX1_placed_12c, eX1_placed_12d, eX1_placed_13, eX1_placed_14, eX1_placed_14b, eX1_placed_14c, eX1_placed_14d, Option.toList_some, Option.toList_none, List.cons_append, List.nil_append, gcat_nil, gcat_cons, cat_int, cat_ref, cat_null, cat_ret, cat_long, grc_ref, narZ0, narZ1, true_and, and_true, decide_true, Nat.reduceAdd, Nat.reduceLeDiff, if_true, if_false, eq_self, gfld_in, gobj_in, garr_in, garq_in, glen_in, gisO_in, ex_some, List.getElem?_cons_succ, List.getElem?_cons_zero, List.length_cons, List.length_nil, List.set_cons_succ, List.set_cons_zero, Nat.reduceLT, va_up_eq, va_up_nl, pW_1 hT, c_hasTest (pW_tr hT), gb_t hin, h10, not_false_eq_true]
  exact h0
theorem c_placed_out (hT : isTr w 1 kr ts co (nI K) (nI N) rm jm) {kk : Int32} (h : ¬ (0 ≤ kk ∧ kk < nI N)) {vc : Int32} : gEv (gT X) 24 0 [.ref 15, .ref 1, .int kk, .null, .null] [] n k (pW w vk vs vc rp nt) Q ↔ Q (some (.int (-9))) n k (pW w vk vs vc rp nt) := by
  simp only [eX1_placed_0, eX1_placed_1, eX1_placed_2, eX1_placed_5, eX1_placed_8, eX1_placed_10, Option.toList_some, Option.toList_none, List.cons_append, List.nil_append, gcat_nil, gcat_cons, cat_int, cat_ref, cat_null, cat_ret, cat_long, grc_ref, narZ0, narZ1, true_and, and_true, decide_true, Nat.reduceAdd, Nat.reduceLeDiff, if_true, if_false, eq_self, gfld_in, gobj_in, garr_in, garq_in, glen_in, gisO_in, ex_some, List.getElem?_cons_succ, List.getElem?_cons_zero, List.length_cons, List.length_nil, List.set_cons_succ, List.set_cons_zero, Nat.reduceLT, va_up_eq, va_up_nl, pW_1 hT, c_hasTest (pW_tr hT), gb_f h, not_true_eq_false]
end PD
