/-! THE MODEL: the fewest tests, the orders -/
/-- a row begins as a list says -/
def gag (al : Nat → Int32) (l : List Nat) : Prop := ∀ p, p < l.length → al p = nI (l.getD p 0) ∧ l.getD p 0 < 6
theorem gag_nil {al : Nat → Int32} : gag al [] := fun p hp => absurd hp (by simp)
theorem gag_app {al : Nat → Int32} {l : List Nat} {j : Nat} (h : gag al l) (hj : j < 6) : gag (upd al l.length (nI j)) (l ++ [j]) := by
  intro p hp
  rw [List.length_append, List.length_singleton] at hp
  by_cases q : p = l.length
  · subst q
    rw [List.getD_eq_getElem?_getD, List.getElem?_append_right (Nat.le_refl _), Nat.sub_self]
    simp [upd, hj]
  · rw [List.getD_eq_getElem?_getD, List.getElem?_append_left (by omega), ← List.getD_eq_getElem?_getD]
    have := h p (by omega)
    simp only [upd, q, if_false]
    exact this
/-- the tests of a set, from j on -/
def gbl (s : Int32) : Nat → Nat → List Nat
  | _, 0 => []
  | j, D + 1 => if (s >>> (nI j &&& 31)) &&& 1 = 1 then j :: gbl s (j + 1) D else gbl s (j + 1) D
/-- kinds are apart along a list of tests -/
def mfl (nw : Nat → Int32) (fz fb : Int32) (We : Nat → Nat) (K : Nat) (l : List Nat) : Int32 := maa (fun c => mbs (fun x => mbc nw fz fb (fun p => l.getD p 0) l.length c (nI x)) (We c)) 0 K 0 1
/-- the price along a list of tests -/
def mpl (nw : Nat → Int32) (fz fb : Int32) (We : Nat → Nat) (K : Nat) (l : List Nat) : Int32 := mpr nw (fun c => mto (fun x => mtl nw (fun p => l.getD p 0) (nI (mbc nw fz fb (fun p => l.getD p 0) l.length c (nI x))) 0 l.length 0) (We c)) K
def mfw (nw : Nat → Int32) (fz fb : Int32) (We : Nat → Nat) (K N : Nat) : Nat → Nat → Int32 → Int32 := gfor (fun s f => if (f = -9 ∨ mon (nI s) < mon f) ∧ ¬ mfl nw fz fb We K (gbl (nI s) 0 N) = 0 then nI s else f)
section MD
variable {X : gX} {n k : Nat} {w : gH} {Q : Option Value → Nat → Nat → gH → Prop} {o : Nat} {nw rd ps im ik tx fa al be fo io : Nat → Int32} {de le pz tk ta va se it ln fz fb fm : Int32} {K N d L : Nat} {We : Nat → Nat} {ap : Nat → Nat}
theorem maa_9 (nw : Nat → Int32) (fz fb : Int32) (ap : Nat → Nat) (L : Nat) (We : Nat → Nat) : ∀ (D j : Nat) (had are : Int32), j + D ≤ 6 → maa (fun c => mbs (fun x => mbc nw fz fb ap L c (nI x)) (if nI c = -9 then 0 else We c)) j D had are = maa (fun c => mbs (fun x => mbc nw fz fb ap L c (nI x)) (We c)) j D had are := by
  intro D
  induction D with
  | zero => intro j had are _; rfl
  | succ D ih =>
    intro j had are hj
    have hne : ¬ nI j = -9 := fun z => by
      have h1 := congrArg Int32.toInt z
      rw [nI_toInt (by omega)] at h1
      have h2 : (-9 : Int32).toInt = -9 := by decide
      omega
    rw [maa, maa]
    rw [if_neg hne]
    exact ih (j + 1) _ _ (by omega)
theorem c6_apart9 (hL : L ≤ 6) (hK : K ≤ 6) (h0 : nw 0 = nI K) (hal : ∀ p, p < L → al p = nI (ap p) ∧ ap p < 6) (hW : ∀ c, c < K → nw (5 * c + 4) = nI (We c) ∧ We c < 1000) : gEv (gT X) 147 0 [.ref o, .int (-9), .int 0, .null, .null, .null, .null] [] n k (mW w o nw rd ps de im ik tx le pz tk ta va fa se it al (nI L) fz fb be fo fm io) Q ↔ Q (some (.int (maa (fun c => mbs (fun x => mbc nw fz fb ap L c (nI x)) (We c)) 0 K 0 1))) n k (mW w o nw rd ps de im ik tx le pz tk ta va fa se it al (nI L) fz fb be fo fm io) := by
  have := @c6_areApart X n k w Q o nw rd ps im ik tx fa al be fo io de le pz tk ta va se it fz fb fm K L ap We hL hK h0 hal hW (-9) 0 (by omega)
  rw [show (nI 0 : Int32) = 0 from rfl] at this
  rw [this, maa_9 nw fz fb ap L We K 0 0 1 (by omega)]
theorem gp2 (hN : N ≤ 6) : (1 : Int32) <<< (nI N &&& 31) = nI (2 ^ N) := by
  have : N = 0 ∨ N = 1 ∨ N = 2 ∨ N = 3 ∨ N = 4 ∨ N = 5 ∨ N = 6 := by omega
  rcases this with rfl | rfl | rfl | rfl | rfl | rfl | rfl <;> decide
theorem gp2_64 (hN : N ≤ 6) : 2 ^ N ≤ 64 := Nat.pow_le_pow_right (n := 2) (by omega) hN
theorem gbl_len (s : Int32) : ∀ (D j : Nat), (gbl s j D).length ≤ D := by
  intro D
  induction D with
  | zero => intro j; exact Nat.le_refl _
  | succ D ih =>
    intro j
    have := ih (j + 1)
    rw [gbl]
    by_cases q : (s >>> (nI j &&& 31)) &&& 1 = 1
    · rw [if_pos q, List.length_cons]; omega
    · rw [if_neg q]; omega
theorem c6_fewest (hN : N ≤ 6) (h31 : nw 31 = nI N) (hK : K ≤ 6) (h0 : nw 0 = nI K) (hW : ∀ c, c < K → nw (5 * c + 4) = nI (We c) ∧ We c < 1000) (hQ : ∀ al ln, Q (some (.int (mfw nw fz fb We K N 0 (2 ^ N) (-9)))) n k (mW w o nw rd ps de im ik tx le pz tk ta va fa se it al ln fz fb be fo fm io)) : gEv (gT X) 166 0 [.ref o, .null, .null, .null] [] n k (mW w o nw rd ps de im ik tx le pz tk ta va fa se it al ln fz fb be fo fm io) Q := by
  have v31 : vp_in 31 59 := vp_in_nI (n := 31) (by omega) (by omega)
  have y31 : (31 : Int32).toNatClampNeg = 31 := by decide
  have h64 := gp2_64 hN
  have inner : ∀ (s f : Int32) (D j : Nat) (l : List Nat) (al : Nat → Int32), j + D = N → l.length ≤ j → gag al l → (∀ al, gag al (l ++ gbl s j D) → gEv (gT X) 166 70 [.ref o, .int f, .int s, .int (nI N)] [] n k (mW w o nw rd ps de im ik tx le pz tk ta va fa se it al (nI (l ++ gbl s j D).length) fz fb be fo fm io) Q) → gEv (gT X) 166 25 [.ref o, .int f, .int s, .int (nI j)] [] n k (mW w o nw rd ps de im ik tx le pz tk ta va fa se it al (nI l.length) fz fb be fo fm io) Q := by
    intro s f D
    induction D with
    | zero =>
      intro j l al hj hl ha hq
      have hc : nI N ≤ nI j := nI_le (by omega) (by omega)
      rw [eX6_fewest_25]
      simp only [eX6_fewest_26, eX6_fewest_27, eX6_fewest_30, eX6_fewest_32, eX6_fewest_33, Option.toList_some, Option.toList_none, List.cons_append, List.nil_append, gcat_nil, gcat_cons, cat_int, cat_ref, cat_null, cat_ret, cat_long, grc_ref, narZ0, narZ1, true_and, and_true, decide_true, Nat.reduceAdd, Nat.reduceLeDiff, if_true, if_false, eq_self, gfld_in, gobj_in, garr_in, garq_in, glen_in, gisO_in, ex_some, List.getElem?_cons_succ, List.getElem?_cons_zero, List.length_cons, List.length_nil, List.set_cons_succ, List.set_cons_zero, Nat.reduceLT, va_up_eq, va_up_nl, mW_0, mW_1, v31, y31, h31, hc]
      rw [show j = N by omega]
      have := hq al
      rw [gbl, List.append_nil] at this
      exact this ha
    | succ D ih =>
      intro j l al hj hl ha hq
      have hc : ¬ nI N ≤ nI j := nI_ge (by omega) (by omega)
      rw [eX6_fewest_25]
      simp only [eX6_fewest_26, eX6_fewest_27, eX6_fewest_30, eX6_fewest_32, eX6_fewest_33, eX6_fewest_36, eX6_fewest_37, eX6_fewest_38, eX6_fewest_41, Option.toList_some, Option.toList_none, List.cons_append, List.nil_append, gcat_nil, gcat_cons, cat_int, cat_ref, cat_null, cat_ret, cat_long, grc_ref, narZ0, narZ1, true_and, and_true, decide_true, Nat.reduceAdd, Nat.reduceLeDiff, if_true, if_false, eq_self, gfld_in, gobj_in, garr_in, garq_in, glen_in, gisO_in, ex_some, List.getElem?_cons_succ, List.getElem?_cons_zero, List.length_cons, List.length_nil, List.set_cons_succ, List.set_cons_zero, Nat.reduceLT, va_up_eq, va_up_nl, mW_0, mW_1, v31, y31, h31, hc, c6_has, gb_0]
      rw [gbl] at hq
      by_cases q : (s >>> (nI j &&& 31)) &&& 1 = 1
      · rw [if_neg (fun z => z q)]
        rw [if_pos q] at hq
        have vl : vp_in (nI l.length) 6 := vp_in_nI (by omega) (by omega)
        simp only [eX6_fewest_44, eX6_fewest_45, eX6_fewest_48, eX6_fewest_49, eX6_fewest_52, eX6_fewest_53, eX6_fewest_54, eX6_fewest_55, eX6_fewest_55b, eX6_fewest_56, eX6_fewest_59, eX6_fewest_60, eX6_fewest_61, eX6_fewest_64, eX6_fewest_64b, eX6_fewest_64c, eX6_fewest_64d, eX6_fewest_67, Option.toList_some, Option.toList_none, List.cons_append, List.nil_append, gcat_nil, gcat_cons, cat_int, cat_ref, cat_null, cat_ret, cat_long, grc_ref, narZ0, narZ1, true_and, and_true, decide_true, Nat.reduceAdd, Nat.reduceLeDiff, if_true, if_false, eq_self, gfld_in, gobj_in, garr_in, garq_in, glen_in, gisO_in, ex_some, List.getElem?_cons_succ, List.getElem?_cons_zero, List.length_cons, List.length_nil, List.set_cons_succ, List.set_cons_zero, Nat.reduceLT, va_up_eq, va_up_nl, mW_0, mW_8, vl, nI_clamp (show l.length < 2 ^ 31 by omega), mW_p8, mW_p0, nI_1]
        have h := ih (j + 1) (l ++ [j]) (upd al l.length (nI j)) (by omega) (by rw [List.length_append, List.length_singleton]; omega) (gag_app ha (by omega))
        rw [List.append_assoc, List.singleton_append, show (l ++ [j]).length = l.length + 1 by rw [List.length_append, List.length_singleton]] at h
        exact h hq
      · rw [if_pos q]
        rw [if_neg q] at hq
        simp only [eX6_fewest_64, eX6_fewest_64b, eX6_fewest_64c, eX6_fewest_64d, eX6_fewest_67, Option.toList_some, Option.toList_none, List.cons_append, List.nil_append, gcat_nil, gcat_cons, cat_int, cat_ref, cat_null, cat_ret, cat_long, grc_ref, narZ0, narZ1, true_and, and_true, decide_true, Nat.reduceAdd, Nat.reduceLeDiff, if_true, if_false, eq_self, gfld_in, gobj_in, garr_in, garq_in, glen_in, gisO_in, ex_some, List.getElem?_cons_succ, List.getElem?_cons_zero, List.length_cons, List.length_nil, List.set_cons_succ, List.set_cons_zero, Nat.reduceLT, va_up_eq, va_up_nl, nI_1]
        exact ih (j + 1) l al (by omega) (by omega) ha hq
  have outer : ∀ (D s : Nat) (f : Int32) (v3 : Value) (al : Nat → Int32) (ln : Int32), s + D = 2 ^ N → (∀ al ln, Q (some (.int (mfw nw fz fb We K N s D f))) n k (mW w o nw rd ps de im ik tx le pz tk ta va fa se it al ln fz fb be fo fm io)) → gEv (gT X) 166 5 [.ref o, .int f, .int (nI s), v3] [] n k (mW w o nw rd ps de im ik tx le pz tk ta va fa se it al ln fz fb be fo fm io) Q := by
    intro D
    induction D with
    | zero =>
      intro s f v3 al ln hs hq
      have hc : nI (2 ^ N) ≤ nI s := nI_le (by omega) (by omega)
      rw [eX6_fewest_5]
      simp only [eX6_fewest_6, eX6_fewest_7, eX6_fewest_8, eX6_fewest_11, eX6_fewest_13, eX6_fewest_14, eX6_fewest_15, eX6_fewest_119, eX6_fewest_120, Option.toList_some, Option.toList_none, List.cons_append, List.nil_append, gcat_nil, gcat_cons, cat_int, cat_ref, cat_null, cat_ret, cat_long, grc_ref, narZ0, narZ1, true_and, and_true, decide_true, Nat.reduceAdd, Nat.reduceLeDiff, if_true, if_false, eq_self, gfld_in, gobj_in, garr_in, garq_in, glen_in, gisO_in, ex_some, List.getElem?_cons_succ, List.getElem?_cons_zero, List.length_cons, List.length_nil, List.set_cons_succ, List.set_cons_zero, Nat.reduceLT, va_up_eq, va_up_nl, mW_0, mW_1, v31, y31, h31, gp2 hN, hc]
      exact hq al ln
    | succ D ih =>
      intro s f v3 al ln hs hq
      have hc : ¬ nI (2 ^ N) ≤ nI s := nI_ge (by omega) (by omega)
      rw [eX6_fewest_5]
      simp only [eX6_fewest_6, eX6_fewest_7, eX6_fewest_8, eX6_fewest_11, eX6_fewest_13, eX6_fewest_14, eX6_fewest_15, eX6_fewest_18, eX6_fewest_19, eX6_fewest_20, eX6_fewest_23, eX6_fewest_24, eX6_fewest_24b, eX6_fewest_24c, eX6_fewest_24d, Option.toList_some, Option.toList_none, List.cons_append, List.nil_append, gcat_nil, gcat_cons, cat_int, cat_ref, cat_null, cat_ret, cat_long, grc_ref, narZ0, narZ1, true_and, and_true, decide_true, Nat.reduceAdd, Nat.reduceLeDiff, if_true, if_false, eq_self, gfld_in, gobj_in, garr_in, garq_in, glen_in, gisO_in, ex_some, List.getElem?_cons_succ, List.getElem?_cons_zero, List.length_cons, List.length_nil, List.set_cons_succ, List.set_cons_zero, Nat.reduceLT, va_up_eq, va_up_nl, mW_0, mW_1, v31, y31, h31, gp2 hN, hc, mW_p0]
      refine inner (nI s) f N 0 [] al (by omega) (Nat.le_refl _) gag_nil ?_
      intro al ha
      rw [List.nil_append] at ha ⊢
      have hl := gbl_len (nI s) N 0
      have tail : ∀ (r : Int32) (v3 : Value) (al : Nat → Int32) (ln : Int32), (∀ al ln, Q (some (.int (mfw nw fz fb We K N (s + 1) D r))) n k (mW w o nw rd ps de im ik tx le pz tk ta va fa se it al ln fz fb be fo fm io)) → gEv (gT X) 166 112 [.ref o, .int f, .int (nI s), v3] [.int r] n k (mW w o nw rd ps de im ik tx le pz tk ta va fa se it al ln fz fb be fo fm io) Q := by
        intro r v3 al ln hq
        simp only [eX6_fewest_112, eX6_fewest_112b, eX6_fewest_112c, eX6_fewest_112d, eX6_fewest_113, eX6_fewest_113b, eX6_fewest_113c, eX6_fewest_113d, eX6_fewest_116, Option.toList_some, Option.toList_none, List.cons_append, List.nil_append, gcat_nil, gcat_cons, cat_int, cat_ref, cat_null, cat_ret, cat_long, grc_ref, narZ0, narZ1, true_and, and_true, decide_true, Nat.reduceAdd, Nat.reduceLeDiff, if_true, if_false, eq_self, gfld_in, gobj_in, garr_in, garq_in, glen_in, gisO_in, ex_some, List.getElem?_cons_succ, List.getElem?_cons_zero, List.length_cons, List.length_nil, List.set_cons_succ, List.set_cons_zero, Nat.reduceLT, va_up_eq, va_up_nl, nI_1]
        exact ih (s + 1) r v3 al ln (by omega) hq
      have e : mfw nw fz fb We K N s (D + 1) f = mfw nw fz fb We K N (s + 1) D (if (f = -9 ∨ mon (nI s) < mon f) ∧ ¬ mfl nw fz fb We K (gbl (nI s) 0 N) = 0 then nI s else f) := rfl
      rw [e] at hq
      have e1 : maa (fun c => mbs (fun x => mbc nw fz fb (fun p => (gbl (nI s) 0 N).getD p 0) (gbl (nI s) 0 N).length c (nI x)) (We c)) 0 K 0 1 = mfl nw fz fb We K (gbl (nI s) 0 N) := rfl
      have h10 : ¬ (1 : Int32) = 0 := by decide
      have yes : (f = -9 ∨ mon (nI s) < mon f) → ∀ {v3 : Value}, gEv (gT X) 166 97 [.ref o, .int f, .int (nI s), v3] [] n k (mW w o nw rd ps de im ik tx le pz tk ta va fa se it al (nI (gbl (nI s) 0 N).length) fz fb be fo fm io) Q := by
        intro hf v3
        simp only [eX6_fewest_97, eX6_fewest_98, eX6_fewest_100, eX6_fewest_101, eX6_fewest_104, Option.toList_some, Option.toList_none, List.cons_append, List.nil_append, gcat_nil, gcat_cons, cat_int, cat_ref, cat_null, cat_ret, cat_long, grc_ref, narZ0, narZ1, true_and, and_true, decide_true, Nat.reduceAdd, Nat.reduceLeDiff, if_true, if_false, eq_self, gfld_in, gobj_in, garr_in, garq_in, glen_in, gisO_in, ex_some, List.getElem?_cons_succ, List.getElem?_cons_zero, List.length_cons, List.length_nil, List.set_cons_succ, List.set_cons_zero, Nat.reduceLT, va_up_eq, va_up_nl, mW_0, c6_apart9 (show (gbl (nI s) 0 N).length ≤ 6 by omega) hK h0 (ap := fun p => (gbl (nI s) 0 N).getD p 0) ha hW, e1]
        by_cases q : mfl nw fz fb We K (gbl (nI s) 0 N) = 0
        · rw [if_pos q]
          rw [if_neg (fun z => z.2 q)] at hq
          simp only [eX6_fewest_111, Option.toList_some, Option.toList_none, List.cons_append, List.nil_append, gcat_nil, gcat_cons, cat_int, cat_ref, cat_null, cat_ret, cat_long, grc_ref, narZ0, narZ1, true_and, and_true, decide_true, Nat.reduceAdd, Nat.reduceLeDiff, if_true, if_false, eq_self, gfld_in, gobj_in, garr_in, garq_in, glen_in, gisO_in, ex_some, List.getElem?_cons_succ, List.getElem?_cons_zero, List.length_cons, List.length_nil, List.set_cons_succ, List.set_cons_zero, Nat.reduceLT, va_up_eq, va_up_nl]
          exact tail _ _ _ _ hq
        · rw [if_neg q]
          rw [if_pos ⟨hf, q⟩] at hq
          simp only [eX6_fewest_107, eX6_fewest_108, Option.toList_some, Option.toList_none, List.cons_append, List.nil_append, gcat_nil, gcat_cons, cat_int, cat_ref, cat_null, cat_ret, cat_long, grc_ref, narZ0, narZ1, true_and, and_true, decide_true, Nat.reduceAdd, Nat.reduceLeDiff, if_true, if_false, eq_self, gfld_in, gobj_in, garr_in, garq_in, glen_in, gisO_in, ex_some, List.getElem?_cons_succ, List.getElem?_cons_zero, List.length_cons, List.length_nil, List.set_cons_succ, List.set_cons_zero, Nat.reduceLT, va_up_eq, va_up_nl]
          exact tail _ _ _ _ hq
      simp only [eX6_fewest_70, eX6_fewest_71, eX6_fewest_73, Option.toList_some, Option.toList_none, List.cons_append, List.nil_append, gcat_nil, gcat_cons, cat_int, cat_ref, cat_null, cat_ret, cat_long, grc_ref, narZ0, narZ1, true_and, and_true, decide_true, Nat.reduceAdd, Nat.reduceLeDiff, if_true, if_false, eq_self, gfld_in, gobj_in, garr_in, garq_in, glen_in, gisO_in, ex_some, List.getElem?_cons_succ, List.getElem?_cons_zero, List.length_cons, List.length_nil, List.set_cons_succ, List.set_cons_zero, Nat.reduceLT, va_up_eq, va_up_nl]
      by_cases q : f = -9
      · rw [if_pos q]
        simp only [eX6_fewest_87, eX6_fewest_88, eX6_fewest_92, eX6_fewest_92b, eX6_fewest_92c, eX6_fewest_92d, eX6_fewest_93, eX6_fewest_94, Option.toList_some, Option.toList_none, List.cons_append, List.nil_append, gcat_nil, gcat_cons, cat_int, cat_ref, cat_null, cat_ret, cat_long, grc_ref, narZ0, narZ1, true_and, and_true, decide_true, Nat.reduceAdd, Nat.reduceLeDiff, if_true, if_false, eq_self, gfld_in, gobj_in, garr_in, garq_in, glen_in, gisO_in, ex_some, List.getElem?_cons_succ, List.getElem?_cons_zero, List.length_cons, List.length_nil, List.set_cons_succ, List.set_cons_zero, Nat.reduceLT, va_up_eq, va_up_nl, h10]
        exact yes (Or.inl q)
      · rw [if_neg q]
        simp only [eX6_fewest_76, eX6_fewest_77, eX6_fewest_80, eX6_fewest_81, eX6_fewest_84, Option.toList_some, Option.toList_none, List.cons_append, List.nil_append, gcat_nil, gcat_cons, cat_int, cat_ref, cat_null, cat_ret, cat_long, grc_ref, narZ0, narZ1, true_and, and_true, decide_true, Nat.reduceAdd, Nat.reduceLeDiff, if_true, if_false, eq_self, gfld_in, gobj_in, garr_in, garq_in, glen_in, gisO_in, ex_some, List.getElem?_cons_succ, List.getElem?_cons_zero, List.length_cons, List.length_nil, List.set_cons_succ, List.set_cons_zero, Nat.reduceLT, va_up_eq, va_up_nl, c6_ones]
        by_cases q2 : mon f ≤ mon (nI s)
        · rw [if_pos q2]
          rw [if_neg (fun z => z.1.elim q (Int32.not_lt.mpr q2))] at hq
          simp only [eX6_fewest_91, eX6_fewest_92, eX6_fewest_92b, eX6_fewest_92c, eX6_fewest_92d, eX6_fewest_93, eX6_fewest_94, eX6_fewest_111, Option.toList_some, Option.toList_none, List.cons_append, List.nil_append, gcat_nil, gcat_cons, cat_int, cat_ref, cat_null, cat_ret, cat_long, grc_ref, narZ0, narZ1, true_and, and_true, decide_true, Nat.reduceAdd, Nat.reduceLeDiff, if_true, if_false, eq_self, gfld_in, gobj_in, garr_in, garq_in, glen_in, gisO_in, ex_some, List.getElem?_cons_succ, List.getElem?_cons_zero, List.length_cons, List.length_nil, List.set_cons_succ, List.set_cons_zero, Nat.reduceLT, va_up_eq, va_up_nl]
          exact tail _ _ _ _ hq
        · rw [if_neg q2]
          simp only [eX6_fewest_87, eX6_fewest_88, eX6_fewest_92, eX6_fewest_92b, eX6_fewest_92c, eX6_fewest_92d, eX6_fewest_93, eX6_fewest_94, Option.toList_some, Option.toList_none, List.cons_append, List.nil_append, gcat_nil, gcat_cons, cat_int, cat_ref, cat_null, cat_ret, cat_long, grc_ref, narZ0, narZ1, true_and, and_true, decide_true, Nat.reduceAdd, Nat.reduceLeDiff, if_true, if_false, eq_self, gfld_in, gobj_in, garr_in, garq_in, glen_in, gisO_in, ex_some, List.getElem?_cons_succ, List.getElem?_cons_zero, List.length_cons, List.length_nil, List.set_cons_succ, List.set_cons_zero, Nat.reduceLT, va_up_eq, va_up_nl, h10]
          exact yes (Or.inr (Int32.not_le.mp q2))
  simp only [eX6_fewest_0, eX6_fewest_2, eX6_fewest_2b, eX6_fewest_2c, eX6_fewest_2d, eX6_fewest_3, eX6_fewest_4, eX6_fewest_4b, eX6_fewest_4c, eX6_fewest_4d, Option.toList_some, Option.toList_none, List.cons_append, List.nil_append, gcat_nil, gcat_cons, cat_int, cat_ref, cat_null, cat_ret, cat_long, grc_ref, narZ0, narZ1, true_and, and_true, decide_true, Nat.reduceAdd, Nat.reduceLeDiff, if_true, if_false, eq_self, gfld_in, gobj_in, garr_in, garq_in, glen_in, gisO_in, ex_some, List.getElem?_cons_succ, List.getElem?_cons_zero, List.length_cons, List.length_nil, List.set_cons_succ, List.set_cons_zero, Nat.reduceLT, va_up_eq, va_up_nl]
  exact outer (2 ^ N) 0 (-9) _ al ln (by omega) hQ
theorem c6_track4 (hK : K ≤ 6) (h0 : nw 0 = nI K) (hW : ∀ c, c < K → nw (5 * c + 4) = nI (We c) ∧ We c < 1000) (hN : N ≤ 6) (h31 : nw 31 = nI N) (hQ : ∀ al ln, Q (some (.int (mfw nw (-9) 0 We K N 0 (2 ^ N) (-9)))) n k (mW w o nw rd ps de im ik tx le pz tk ta va fa se it al ln (-9) 0 be fo fm io)) : gEv (gT X) 167 0 [.ref o, .int 4] [] n k (mW w o nw rd ps de im ik tx le pz tk ta va fa se it al ln fz fb be fo fm io) Q := by
  have g0 : gtab 5 74 0 [35, 51, 56, 61, 69] 4 = 74 := by decide
  simp only [eX6_track_0, eX6_track_1, eX6_track_4, eX6_track_5, eX6_track_74, eX6_track_75, Option.toList_some, Option.toList_none, List.cons_append, List.nil_append, gcat_nil, gcat_cons, cat_int, cat_ref, cat_null, cat_ret, cat_long, grc_ref, narZ0, narZ1, true_and, and_true, decide_true, Nat.reduceAdd, Nat.reduceLeDiff, if_true, if_false, eq_self, gfld_in, gobj_in, garr_in, garq_in, glen_in, gisO_in, ex_some, List.getElem?_cons_succ, List.getElem?_cons_zero, List.length_cons, List.length_nil, List.set_cons_succ, List.set_cons_zero, Nat.reduceLT, va_up_eq, va_up_nl, mW_0, c6_asTold hN h31, g0]
  refine c6_fewest hN h31 hK h0 hW ?_
  intro al ln
  simp only [eX6_track_78, Option.toList_some, Option.toList_none, List.cons_append, List.nil_append, gcat_nil, gcat_cons, cat_int, cat_ref, cat_null, cat_ret, cat_long, grc_ref, narZ0, narZ1, true_and, and_true, decide_true, Nat.reduceAdd, Nat.reduceLeDiff, if_true, if_false, eq_self, gfld_in, gobj_in, garr_in, garq_in, glen_in, gisO_in, ex_some, List.getElem?_cons_succ, List.getElem?_cons_zero, List.length_cons, List.length_nil, List.set_cons_succ, List.set_cons_zero, Nat.reduceLT, va_up_eq, va_up_nl]
  exact hQ al ln
end MD
