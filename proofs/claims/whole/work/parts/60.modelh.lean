/-! THE MODEL: the look -/
section MH
variable {X : gX} {n k : Nat} {w : gH} {Q : Option Value → Nat → Nat → gH → Prop} {o : Nat} {nw rd ps im ik tx fa al be fo io : Nat → Int32} {de le pz tk ta va se it ln fz fb fm : Int32} {K N d L S : Nat} {We Fk Fx Fb : Nat → Nat} {a : Nat → Nat} {l : List Nat}
def mmo (nw : Nat → Int32) (N : Nat) (l : List Nat) (c x : Nat) (io : Nat → Int32) : Int32 := (mmb (fun u => mbc nw (mfz u) (mfb u) (fun p => p) N c (nI x)) l 0 l.length (mrng 0 7 (fun _ => 0) io, 0)).2
theorem mmb_out (bc : Nat → Nat) (l : List Nat) (hb : ∀ u, bc u < 7) : ∀ (D j : Nat) (f g : Nat → Int32) (m : Int32), (∀ b, b < 7 → f b = g b) → (mmb bc l j D (f, m)).2 = (mmb bc l j D (g, m)).2 := by
  intro D
  induction D with
  | zero => intro j f g m _; rfl
  | succ D ih =>
    intro j f g m h
    unfold mmb at ih ⊢
    rw [gfor, gfor]
    have hbb := h _ (hb (l.getD j 0))
    simp only [mms, hbb]
    refine ih (j + 1) _ _ _ ?_
    intro b hb
    unfold upd
    by_cases q : b = bc (l.getD j 0)
    · rw [if_pos q, if_pos q]
    · rw [if_neg q, if_neg q]; exact h b hb
theorem mmo_io (hN : N ≤ 6) {c x : Nat} {io io' : Nat → Int32} : mmo nw N l c x io = mmo nw N l c x io' := by
  unfold mmo
  refine mmb_out _ _ (fun u => ?_) _ _ _ _ _ (fun b hb => ?_)
  · have : mbc nw (mfz u) (mfb u) (fun p => p) N c (nI x) ≤ N := mbn_le
    omega
  · rw [mrng_in (Nat.zero_le _) hb, mrng_in (Nat.zero_le _) hb]
theorem c6_mostBy (hN : N ≤ 6) (h31 : nw 31 = nI N) (hl : l.length ≤ 13) (hu : ∀ j, j < l.length → l.getD j 0 ≤ 2 * N ∧ mtk nw (l.getD j 0)) (hg : gagu fo l) {c : Nat} (hc : c < 6) {x : Nat} (hQ : ∀ al ln fz fb io', Q (some (.int (mmo nw N l c x io))) n k (mW w o nw rd ps de im ik tx le pz tk ta va fa se it al ln fz fb be fo (nI l.length) io')) : gEv (gT X) 179 0 [.ref o, .int (nI c), .int (nI x), .null, .null, .null, .null] [] n k (mW w o nw rd ps de im ik tx le pz tk ta va fa se it al ln fz fb be fo (nI l.length) io) Q := by
  have second : ∀ (D j : Nat) (m : Int32) (io al : Nat → Int32) (ln fz fb : Int32) (v5 v6 : Value), j + D = l.length → (∀ al ln fz fb io', Q (some (.int (mmb (fun u => mbc nw (mfz u) (mfb u) (fun p => p) N c (nI x)) l j D (io, m)).2)) n k (mW w o nw rd ps de im ik tx le pz tk ta va fa se it al ln fz fb be fo (nI l.length) io')) → gEv (gT X) 179 26 [.ref o, .int (nI c), .int (nI x), .int m, .int (nI j), v5, v6] [] n k (mW w o nw rd ps de im ik tx le pz tk ta va fa se it al ln fz fb be fo (nI l.length) io) Q := by
    intro D
    induction D with
    | zero =>
      intro j m io al ln fz fb v5 v6 hj hq
      have hc1 : nI l.length ≤ nI j := nI_le (by omega) (by omega)
      rw [eX6_mostBy_26]
      simp only [eX6_mostBy_28, eX6_mostBy_29, eX6_mostBy_32, eX6_mostBy_105, eX6_mostBy_106, Option.toList_some, Option.toList_none, List.cons_append, List.nil_append, gcat_nil, gcat_cons, cat_int, cat_ref, cat_null, cat_ret, cat_long, grc_ref, narZ0, narZ1, true_and, and_true, decide_true, Nat.reduceAdd, Nat.reduceLeDiff, if_true, if_false, eq_self, gfld_in, gobj_in, garr_in, garq_in, glen_in, gisO_in, ex_some, List.getElem?_cons_succ, List.getElem?_cons_zero, List.length_cons, List.length_nil, List.set_cons_succ, List.set_cons_zero, Nat.reduceLT, va_up_eq, va_up_nl, mW_0, hc1]
      exact hq al ln fz fb io
    | succ D ih =>
      intro j m io al ln fz fb v5 v6 hj hq
      have hc1 : ¬ nI l.length ≤ nI j := nI_ge (by omega) (by omega)
      have vj : vp_in (nI j) 13 := vp_in_nI (by omega) (by omega)
      obtain ⟨hu1, hu2⟩ := hu j (by omega)
      have hgj := hg j (by omega)
      have h10 : ¬ (1 : Int32) = 0 := by decide
      have e0 : mmb (fun u => mbc nw (mfz u) (mfb u) (fun p => p) N c (nI x)) l j (D + 1) (io, m) = mmb (fun u => mbc nw (mfz u) (mfb u) (fun p => p) N c (nI x)) l (j + 1) D (mms (mbc nw (mfz (l.getD j 0)) (mfb (l.getD j 0)) (fun p => p) N c (nI x)) (io, m)) := rfl
      rw [e0] at hq
      clear e0
      have hq' := hq
      clear hq
      have hle : mbc nw (mfz (l.getD j 0)) (mfb (l.getD j 0)) (fun p => p) N c (nI x) ≤ N := mbn_le
      rw [eX6_mostBy_26]
      simp only [eX6_mostBy_28, eX6_mostBy_29, eX6_mostBy_32, eX6_mostBy_35, eX6_mostBy_36, eX6_mostBy_37, eX6_mostBy_40, eX6_mostBy_42, eX6_mostBy_43, eX6_mostBy_46, eX6_mostBy_46b, eX6_mostBy_46c, eX6_mostBy_46d, eX6_mostBy_48, eX6_mostBy_49, eX6_mostBy_50, eX6_mostBy_51, eX6_mostBy_54, eX6_mostBy_54b, eX6_mostBy_54c, eX6_mostBy_54d, Option.toList_some, Option.toList_none, List.cons_append, List.nil_append, gcat_nil, gcat_cons, cat_int, cat_ref, cat_null, cat_ret, cat_long, grc_ref, narZ0, narZ1, true_and, and_true, decide_true, Nat.reduceAdd, Nat.reduceLeDiff, if_true, if_false, eq_self, gfld_in, gobj_in, garr_in, garq_in, glen_in, gisO_in, ex_some, List.getElem?_cons_succ, List.getElem?_cons_zero, List.length_cons, List.length_nil, List.set_cons_succ, List.set_cons_zero, Nat.reduceLT, va_up_eq, va_up_nl, mW_0, mW_10, hc1, vj, nI_clamp (show j < 2 ^ 31 by omega), hgj, c6_takeSuspect hN h31 hu1, gb_t hu2, c6_binBy hN (halT hN) hc]
      generalize mbc nw (mfz (l.getD j 0)) (mfb (l.getD j 0)) (fun p => p) N c (nI x) = b at *
      have vb : vp_in (nI b) 7 := vp_in_nI (by omega) (by omega)
      unfold mms at hq'
      dsimp only at hq'
      have eu : ∀ y, upd io b y b = y := fun y => by simp [upd]
      simp only [eX6_mostBy_56, eX6_mostBy_57, eX6_mostBy_60, eX6_mostBy_62, eX6_mostBy_63, eX6_mostBy_64, eX6_mostBy_66, eX6_mostBy_69, eX6_mostBy_70, eX6_mostBy_74, eX6_mostBy_75, eX6_mostBy_76, eX6_mostBy_77, eX6_mostBy_80, eX6_mostBy_82, eX6_mostBy_83, eX6_mostBy_84, Option.toList_some, Option.toList_none, List.cons_append, List.nil_append, gcat_nil, gcat_cons, cat_int, cat_ref, cat_null, cat_ret, cat_long, grc_ref, narZ0, narZ1, true_and, and_true, decide_true, Nat.reduceAdd, Nat.reduceLeDiff, if_true, if_false, eq_self, gfld_in, gobj_in, garr_in, garq_in, glen_in, gisO_in, ex_some, List.getElem?_cons_succ, List.getElem?_cons_zero, List.length_cons, List.length_nil, List.set_cons_succ, List.set_cons_zero, Nat.reduceLT, va_up_eq, va_up_nl, mW_0, mW_11, vb, nI_clamp (show b < 2 ^ 31 by omega), h10, mW_p11, eu]
      by_cases q : io b + 1 ≤ m
      · rw [if_pos q]
        rw [if_pos q] at hq'
        simp only [eX6_mostBy_97, eX6_mostBy_98, eX6_mostBy_98b, eX6_mostBy_98c, eX6_mostBy_98d, eX6_mostBy_99, eX6_mostBy_99b, eX6_mostBy_99c, eX6_mostBy_99d, eX6_mostBy_102, Option.toList_some, Option.toList_none, List.cons_append, List.nil_append, gcat_nil, gcat_cons, cat_int, cat_ref, cat_null, cat_ret, cat_long, grc_ref, narZ0, narZ1, true_and, and_true, decide_true, Nat.reduceAdd, Nat.reduceLeDiff, if_true, if_false, eq_self, gfld_in, gobj_in, garr_in, garq_in, glen_in, gisO_in, ex_some, List.getElem?_cons_succ, List.getElem?_cons_zero, List.length_cons, List.length_nil, List.set_cons_succ, List.set_cons_zero, Nat.reduceLT, va_up_eq, va_up_nl, nI_1]
        exact ih (j + 1) _ _ _ _ _ _ _ _ (by omega) hq'
      · rw [if_neg q]
        rw [if_neg q] at hq'
        simp only [eX6_mostBy_87, eX6_mostBy_88, eX6_mostBy_91, eX6_mostBy_93, eX6_mostBy_94, eX6_mostBy_98, eX6_mostBy_98b, eX6_mostBy_98c, eX6_mostBy_98d, eX6_mostBy_99, eX6_mostBy_99b, eX6_mostBy_99c, eX6_mostBy_99d, eX6_mostBy_102, Option.toList_some, Option.toList_none, List.cons_append, List.nil_append, gcat_nil, gcat_cons, cat_int, cat_ref, cat_null, cat_ret, cat_long, grc_ref, narZ0, narZ1, true_and, and_true, decide_true, Nat.reduceAdd, Nat.reduceLeDiff, if_true, if_false, eq_self, gfld_in, gobj_in, garr_in, garq_in, glen_in, gisO_in, ex_some, List.getElem?_cons_succ, List.getElem?_cons_zero, List.length_cons, List.length_nil, List.set_cons_succ, List.set_cons_zero, Nat.reduceLT, va_up_eq, va_up_nl, mW_0, mW_11, vb, nI_clamp (show b < 2 ^ 31 by omega), eu, nI_1]
        exact ih (j + 1) _ _ _ _ _ _ _ _ (by omega) hq'
  have first : ∀ (D j : Nat), j + D = 7 → gEv (gT X) 179 2 [.ref o, .int (nI c), .int (nI x), .int (nI j), .null, .null, .null] [] n k (mW w o nw rd ps de im ik tx le pz tk ta va fa se it al ln fz fb be fo (nI l.length) (mrng 0 j (fun _ => 0) io)) Q := by
    intro D
    induction D with
    | zero =>
      intro j hj
      have hc1 : 7 ≤ nI j := nI_le (a := 7) (by omega) (by omega)
      rw [eX6_mostBy_2]
      simp only [eX6_mostBy_3, eX6_mostBy_5, eX6_mostBy_21, eX6_mostBy_22, eX6_mostBy_22b, eX6_mostBy_22c, eX6_mostBy_22d, eX6_mostBy_23, eX6_mostBy_24, eX6_mostBy_24b, eX6_mostBy_24c, eX6_mostBy_24d, Option.toList_some, Option.toList_none, List.cons_append, List.nil_append, gcat_nil, gcat_cons, cat_int, cat_ref, cat_null, cat_ret, cat_long, grc_ref, narZ0, narZ1, true_and, and_true, decide_true, Nat.reduceAdd, Nat.reduceLeDiff, if_true, if_false, eq_self, gfld_in, gobj_in, garr_in, garq_in, glen_in, gisO_in, ex_some, List.getElem?_cons_succ, List.getElem?_cons_zero, List.length_cons, List.length_nil, List.set_cons_succ, List.set_cons_zero, Nat.reduceLT, va_up_eq, va_up_nl, hc1]
      rw [show j = 7 by omega]
      exact second l.length 0 0 (mrng 0 7 (fun _ => 0) io) al ln fz fb _ _ (by omega) hQ
    | succ D ih =>
      intro j hj
      have hc1 : ¬ 7 ≤ nI j := nI_ge (b := 7) (by omega) (by omega)
      have v1 : vp_in (nI j) 7 := vp_in_nI (by omega) (by omega)
      have e1 := mrng_up (lo := 0) (k := j) (f := fun _ => (0 : Int32)) (g := io) (x := 0) (by omega) rfl
      rw [eX6_mostBy_2]
      simp only [eX6_mostBy_3, eX6_mostBy_5, eX6_mostBy_8, eX6_mostBy_9, eX6_mostBy_12, eX6_mostBy_13, eX6_mostBy_14, eX6_mostBy_15, eX6_mostBy_15b, eX6_mostBy_15c, eX6_mostBy_15d, eX6_mostBy_18, Option.toList_some, Option.toList_none, List.cons_append, List.nil_append, gcat_nil, gcat_cons, cat_int, cat_ref, cat_null, cat_ret, cat_long, grc_ref, narZ0, narZ1, true_and, and_true, decide_true, Nat.reduceAdd, Nat.reduceLeDiff, if_true, if_false, eq_self, gfld_in, gobj_in, garr_in, garq_in, glen_in, gisO_in, ex_some, List.getElem?_cons_succ, List.getElem?_cons_zero, List.length_cons, List.length_nil, List.set_cons_succ, List.set_cons_zero, Nat.reduceLT, va_up_eq, va_up_nl, hc1, mW_0, mW_11, v1, nI_clamp (show j < 2 ^ 31 by omega), e1, mW_p11, nI_1]
      exact ih (j + 1) (by omega)
  have := first 7 0 (by omega)
  rw [mrng_nil] at this
  simp only [eX6_mostBy_0, eX6_mostBy_1, eX6_mostBy_1b, eX6_mostBy_1c, eX6_mostBy_1d, Option.toList_some, Option.toList_none, List.cons_append, List.nil_append, gcat_nil, gcat_cons, cat_int, cat_ref, cat_null, cat_ret, cat_long, grc_ref, narZ0, narZ1, true_and, and_true, decide_true, Nat.reduceAdd, Nat.reduceLeDiff, if_true, if_false, eq_self, gfld_in, gobj_in, garr_in, garq_in, glen_in, gisO_in, ex_some, List.getElem?_cons_succ, List.getElem?_cons_zero, List.length_cons, List.length_nil, List.set_cons_succ, List.set_cons_zero, Nat.reduceLT, va_up_eq, va_up_nl]
  exact this
/-- which coin is told -/
def mlo (nw : Nat → Int32) (N K : Nat) (We : Nat → Nat) (l : List Nat) : Int32 := if l.length ≤ 1 then -9 else (mlk (fun c x => mmo nw N l c x (fun _ => 0)) We 0 K (-9, nI (l.length + 1))).1
theorem c6_look (hN : N ≤ 6) (h31 : nw 31 = nI N) (hK : K ≤ 6) (h0 : nw 0 = nI K) (hW : ∀ c, c < K → nw (5 * c + 4) = nI (We c) ∧ We c < 1000) (hF : gFa fa Fk Fx Fb S) (hQ : ∀ al ln fz fb fo fm io, Q (some (.int (mlo nw N K We (msl nw K N Fk Fx Fb S 0 (2 * N + 1))))) n k (mW w o nw rd ps de im ik tx le pz tk ta va fa (nI S) it al ln fz fb be fo fm io)) : gEv (gT X) 180 0 [.ref o, .null, .null, .null, .null, .null] [] n k (mW w o nw rd ps de im ik tx le pz tk ta va fa (nI S) it al ln fz fb be fo fm io) Q := by
  simp only [eX6_look_0, eX6_look_1, Option.toList_some, Option.toList_none, List.cons_append, List.nil_append, gcat_nil, gcat_cons, cat_int, cat_ref, cat_null, cat_ret, cat_long, grc_ref, narZ0, narZ1, true_and, and_true, decide_true, Nat.reduceAdd, Nat.reduceLeDiff, if_true, if_false, eq_self, gfld_in, gobj_in, garr_in, garq_in, glen_in, gisO_in, ex_some, List.getElem?_cons_succ, List.getElem?_cons_zero, List.length_cons, List.length_nil, List.set_cons_succ, List.set_cons_zero, Nat.reduceLT, va_up_eq, va_up_nl, mW_0]
  refine c6_findSuspects hN h31 hK h0 hF ?_
  intro al ln fz fb fo hg
  have hl : (msl nw K N Fk Fx Fb S 0 (2 * N + 1)).length ≤ 2 * N + 1 := gfl_len _ _ _
  have hu : ∀ j, j < (msl nw K N Fk Fx Fb S 0 (2 * N + 1)).length → (msl nw K N Fk Fx Fb S 0 (2 * N + 1)).getD j 0 ≤ 2 * N ∧ mtk nw ((msl nw K N Fk Fx Fb S 0 (2 * N + 1)).getD j 0) := by
    intro j hj
    have hm : (msl nw K N Fk Fx Fb S 0 (2 * N + 1)).getD j 0 ∈ msl nw K N Fk Fx Fb S 0 (2 * N + 1) := by
      rw [List.getD_eq_getElem?_getD, List.getElem?_eq_getElem hj]
      exact List.getElem_mem hj
    have := gfl_mem _ _ _ hm
    exact ⟨by omega, this.1.1⟩
  generalize msl nw K N Fk Fx Fb S 0 (2 * N + 1) = l at *
  have v0 : vp_in 0 59 := vp_in_nI (n := 0) (by omega) (by omega)
  have y0 : (0 : Int32).toNatClampNeg = 0 := by decide
  have inner : ∀ (c : Nat), c < K → ∀ (D x : Nat) (s : Int32 × Int32) (al io : Nat → Int32) (ln fz fb : Int32) (v5 : Value), x + D = We c + 1 → (∀ al ln fz fb io (v4 v5 : Value), gEv (gT X) 180 94 [.ref o, .int (mlx (fun c x => mmo nw N l c x (fun _ => 0)) c x D s).1, .int (mlx (fun c x => mmo nw N l c x (fun _ => 0)) c x D s).2, .int (nI c), v4, v5] [] n k (mW w o nw rd ps de im ik tx le pz tk ta va fa (nI S) it al ln fz fb be fo (nI l.length) io) Q) → gEv (gT X) 180 37 [.ref o, .int s.1, .int s.2, .int (nI c), .int (nI x), v5] [] n k (mW w o nw rd ps de im ik tx le pz tk ta va fa (nI S) it al ln fz fb be fo (nI l.length) io) Q := by
    intro c hc D
    obtain ⟨hw1, hw2⟩ := hW c hc
    have hc6 : c < 6 := by omega
    have f3 : ∀ {al io : Nat → Int32} {ln fz fb : Int32} {Q : Option Value → Nat → Nat → gH → Prop}, gEv (gT X) 138 0 [.ref o, .int (nI c), .int 3] [] n k (mW w o nw rd ps de im ik tx le pz tk ta va fa (nI S) it al ln fz fb be fo (nI l.length) io) Q ↔ Q (some (.int (nw (5 * c + 4)))) n k (mW w o nw rd ps de im ik tx le pz tk ta va fa (nI S) it al ln fz fb be fo (nI l.length) io) := c6_ofKind hc6 (f := 3) (by decide)
    induction D with
    | zero =>
      intro x s al io ln fz fb v5 hx hq
      have hc1 : nI (We c) < nI x := nI_lt (by omega) (by omega)
      rw [eX6_look_37]
      simp only [eX6_look_39, eX6_look_40, eX6_look_41, eX6_look_42, eX6_look_45, Option.toList_some, Option.toList_none, List.cons_append, List.nil_append, gcat_nil, gcat_cons, cat_int, cat_ref, cat_null, cat_ret, cat_long, grc_ref, narZ0, narZ1, true_and, and_true, decide_true, Nat.reduceAdd, Nat.reduceLeDiff, if_true, if_false, eq_self, gfld_in, gobj_in, garr_in, garq_in, glen_in, gisO_in, ex_some, List.getElem?_cons_succ, List.getElem?_cons_zero, List.length_cons, List.length_nil, List.set_cons_succ, List.set_cons_zero, Nat.reduceLT, va_up_eq, va_up_nl, mW_0, f3, hw1, hc1]
      exact hq _ _ _ _ _ _ _
    | succ D ih =>
      intro x s al io ln fz fb v5 hx hq
      have hc1 : ¬ nI (We c) < nI x := nI_nlt (by omega) (by omega)
      rw [eX6_look_37]
      simp only [eX6_look_39, eX6_look_40, eX6_look_41, eX6_look_42, eX6_look_45, eX6_look_48, eX6_look_49, eX6_look_50, eX6_look_52, Option.toList_some, Option.toList_none, List.cons_append, List.nil_append, gcat_nil, gcat_cons, cat_int, cat_ref, cat_null, cat_ret, cat_long, grc_ref, narZ0, narZ1, true_and, and_true, decide_true, Nat.reduceAdd, Nat.reduceLeDiff, if_true, if_false, eq_self, gfld_in, gobj_in, garr_in, garq_in, glen_in, gisO_in, ex_some, List.getElem?_cons_succ, List.getElem?_cons_zero, List.length_cons, List.length_nil, List.set_cons_succ, List.set_cons_zero, Nat.reduceLT, va_up_eq, va_up_nl, mW_0, f3, hw1, hc1]
      refine c6_mostBy hN h31 (by omega) hu hg hc6 ?_
      intro al ln fz fb io'
      rw [mmo_io hN (io := io) (io' := fun _ => 0)]
      have e : mlx (fun c x => mmo nw N l c x (fun _ => 0)) c x (D + 1) s = mlx (fun c x => mmo nw N l c x (fun _ => 0)) c (x + 1) D (if mmo nw N l c x (fun _ => 0) < s.2 then (nI (10 * c + x), mmo nw N l c x (fun _ => 0)) else s) := rfl
      rw [e] at hq
      have e10 : 10 * nI c + nI x = nI (10 * c + x) := by rw [show (10 : Int32) = nI 10 from rfl, pk_mul, nI_add]
      simp only [eX6_look_55, eX6_look_55b, eX6_look_55c, eX6_look_55d, eX6_look_57, eX6_look_59, eX6_look_60, Option.toList_some, Option.toList_none, List.cons_append, List.nil_append, gcat_nil, gcat_cons, cat_int, cat_ref, cat_null, cat_ret, cat_long, grc_ref, narZ0, narZ1, true_and, and_true, decide_true, Nat.reduceAdd, Nat.reduceLeDiff, if_true, if_false, eq_self, gfld_in, gobj_in, garr_in, garq_in, glen_in, gisO_in, ex_some, List.getElem?_cons_succ, List.getElem?_cons_zero, List.length_cons, List.length_nil, List.set_cons_succ, List.set_cons_zero, Nat.reduceLT, va_up_eq, va_up_nl]
      by_cases q : mmo nw N l c x (fun _ => 0) < s.2
      · rw [if_pos q] at hq
        have q' : ¬ s.2 ≤ mmo nw N l c x (fun _ => 0) := Int32.not_le.mpr q
        simp only [eX6_look_63, eX6_look_65, eX6_look_66, eX6_look_67, eX6_look_69, eX6_look_70, eX6_look_74, eX6_look_74b, eX6_look_74c, eX6_look_74d, eX6_look_75, eX6_look_77, eX6_look_78, eX6_look_81, eX6_look_83, eX6_look_87, eX6_look_87b, eX6_look_87c, eX6_look_87d, eX6_look_88, eX6_look_88b, eX6_look_88c, eX6_look_88d, eX6_look_91, Option.toList_some, Option.toList_none, List.cons_append, List.nil_append, gcat_nil, gcat_cons, cat_int, cat_ref, cat_null, cat_ret, cat_long, grc_ref, narZ0, narZ1, true_and, and_true, decide_true, Nat.reduceAdd, Nat.reduceLeDiff, if_true, if_false, eq_self, gfld_in, gobj_in, garr_in, garq_in, glen_in, gisO_in, ex_some, List.getElem?_cons_succ, List.getElem?_cons_zero, List.length_cons, List.length_nil, List.set_cons_succ, List.set_cons_zero, Nat.reduceLT, va_up_eq, va_up_nl, q', e10, nI_1]
        exact ih (x + 1) (nI (10 * c + x), mmo nw N l c x (fun _ => 0)) al io' ln fz fb _ (by omega) hq
      · rw [if_neg q] at hq
        have q' : s.2 ≤ mmo nw N l c x (fun _ => 0) := Int32.not_lt.mp q
        simp only [eX6_look_73, eX6_look_74, eX6_look_74b, eX6_look_74c, eX6_look_74d, eX6_look_75, eX6_look_77, eX6_look_78, eX6_look_86, eX6_look_87, eX6_look_87b, eX6_look_87c, eX6_look_87d, eX6_look_88, eX6_look_88b, eX6_look_88c, eX6_look_88d, eX6_look_91, Option.toList_some, Option.toList_none, List.cons_append, List.nil_append, gcat_nil, gcat_cons, cat_int, cat_ref, cat_null, cat_ret, cat_long, grc_ref, narZ0, narZ1, true_and, and_true, decide_true, Nat.reduceAdd, Nat.reduceLeDiff, if_true, if_false, eq_self, gfld_in, gobj_in, garr_in, garq_in, glen_in, gisO_in, ex_some, List.getElem?_cons_succ, List.getElem?_cons_zero, List.length_cons, List.length_nil, List.set_cons_succ, List.set_cons_zero, Nat.reduceLT, va_up_eq, va_up_nl, q', nI_1]
        exact ih (x + 1) s al io' ln fz fb _ (by omega) hq
  have outer : 1 < l.length → ∀ (D c : Nat) (s : Int32 × Int32) (al io : Nat → Int32) (ln fz fb : Int32) (v4 v5 : Value), c + D = K → (∀ al ln fz fb io, Q (some (.int (mlk (fun c x => mmo nw N l c x (fun _ => 0)) We c D s).1)) n k (mW w o nw rd ps de im ik tx le pz tk ta va fa (nI S) it al ln fz fb be fo (nI l.length) io)) → gEv (gT X) 180 16 [.ref o, .int s.1, .int s.2, .int (nI c), v4, v5] [] n k (mW w o nw rd ps de im ik tx le pz tk ta va fa (nI S) it al ln fz fb be fo (nI l.length) io) Q := by
    intro hl1 D
    induction D with
    | zero =>
      intro c s al io ln fz fb v4 v5 hc hq
      have hc1 : nI K ≤ nI c := nI_le (by omega) (by omega)
      rw [eX6_look_16]
      simp only [eX6_look_17, eX6_look_18, eX6_look_21, eX6_look_22, eX6_look_23, eX6_look_100, eX6_look_101, Option.toList_some, Option.toList_none, List.cons_append, List.nil_append, gcat_nil, gcat_cons, cat_int, cat_ref, cat_null, cat_ret, cat_long, grc_ref, narZ0, narZ1, true_and, and_true, decide_true, Nat.reduceAdd, Nat.reduceLeDiff, if_true, if_false, eq_self, gfld_in, gobj_in, garr_in, garq_in, glen_in, gisO_in, ex_some, List.getElem?_cons_succ, List.getElem?_cons_zero, List.length_cons, List.length_nil, List.set_cons_succ, List.set_cons_zero, Nat.reduceLT, va_up_eq, va_up_nl, mW_0, mW_1, v0, y0, h0, hc1]
      exact hq _ _ _ _ _
    | succ D ih =>
      intro c s al io ln fz fb v4 v5 hc hq
      have hc1 : ¬ nI K ≤ nI c := nI_ge (by omega) (by omega)
      have hc2 : ¬ nI l.length ≤ 1 := nI_ge (a := 1) hl1 (by omega)
      rw [eX6_look_16]
      simp only [eX6_look_17, eX6_look_18, eX6_look_21, eX6_look_22, eX6_look_23, eX6_look_26, eX6_look_27, eX6_look_30, eX6_look_31, eX6_look_34, eX6_look_35, eX6_look_35b, eX6_look_35c, eX6_look_35d, Option.toList_some, Option.toList_none, List.cons_append, List.nil_append, gcat_nil, gcat_cons, cat_int, cat_ref, cat_null, cat_ret, cat_long, grc_ref, narZ0, narZ1, true_and, and_true, decide_true, Nat.reduceAdd, Nat.reduceLeDiff, if_true, if_false, eq_self, gfld_in, gobj_in, garr_in, garq_in, glen_in, gisO_in, ex_some, List.getElem?_cons_succ, List.getElem?_cons_zero, List.length_cons, List.length_nil, List.set_cons_succ, List.set_cons_zero, Nat.reduceLT, va_up_eq, va_up_nl, mW_0, mW_1, v0, y0, h0, hc1, hc2]
      refine inner c (by omega) (We c + 1) 0 s al io ln fz fb _ (by omega) ?_
      intro al ln fz fb io v4 v5
      simp only [eX6_look_94, eX6_look_94b, eX6_look_94c, eX6_look_94d, eX6_look_97, Option.toList_some, Option.toList_none, List.cons_append, List.nil_append, gcat_nil, gcat_cons, cat_int, cat_ref, cat_null, cat_ret, cat_long, grc_ref, narZ0, narZ1, true_and, and_true, decide_true, Nat.reduceAdd, Nat.reduceLeDiff, if_true, if_false, eq_self, gfld_in, gobj_in, garr_in, garq_in, glen_in, gisO_in, ex_some, List.getElem?_cons_succ, List.getElem?_cons_zero, List.length_cons, List.length_nil, List.set_cons_succ, List.set_cons_zero, Nat.reduceLT, va_up_eq, va_up_nl, nI_1]
      exact ih (c + 1) _ al io ln fz fb _ _ (by omega) hq
  simp only [eX6_look_4, eX6_look_6, eX6_look_6b, eX6_look_6c, eX6_look_6d, eX6_look_7, eX6_look_8, eX6_look_11, eX6_look_12, eX6_look_13, eX6_look_13b, eX6_look_13c, eX6_look_13d, eX6_look_14, eX6_look_15, eX6_look_15b, eX6_look_15c, eX6_look_15d, Option.toList_some, Option.toList_none, List.cons_append, List.nil_append, gcat_nil, gcat_cons, cat_int, cat_ref, cat_null, cat_ret, cat_long, grc_ref, narZ0, narZ1, true_and, and_true, decide_true, Nat.reduceAdd, Nat.reduceLeDiff, if_true, if_false, eq_self, gfld_in, gobj_in, garr_in, garq_in, glen_in, gisO_in, ex_some, List.getElem?_cons_succ, List.getElem?_cons_zero, List.length_cons, List.length_nil, List.set_cons_succ, List.set_cons_zero, Nat.reduceLT, va_up_eq, va_up_nl, mW_0, nI_1]
  unfold mlo at hQ
  by_cases q : l.length ≤ 1
  · rw [if_pos q] at hQ
    have hc2 : nI l.length ≤ 1 := nI_le (b := 1) q (by omega)
    rw [eX6_look_16]
    simp only [eX6_look_17, eX6_look_18, eX6_look_21, eX6_look_22, eX6_look_23, eX6_look_26, eX6_look_27, eX6_look_30, eX6_look_31, Option.toList_some, Option.toList_none, List.cons_append, List.nil_append, gcat_nil, gcat_cons, cat_int, cat_ref, cat_null, cat_ret, cat_long, grc_ref, narZ0, narZ1, true_and, and_true, decide_true, Nat.reduceAdd, Nat.reduceLeDiff, if_true, if_false, eq_self, gfld_in, gobj_in, garr_in, garq_in, glen_in, gisO_in, ex_some, List.getElem?_cons_succ, List.getElem?_cons_zero, List.length_cons, List.length_nil, List.set_cons_succ, List.set_cons_zero, Nat.reduceLT, va_up_eq, va_up_nl, mW_0, mW_1, v0, y0, h0, hc2]
    by_cases q2 : nI K ≤ 0
    · rw [if_pos q2]
      simp only [eX6_look_100, eX6_look_101, Option.toList_some, Option.toList_none, List.cons_append, List.nil_append, gcat_nil, gcat_cons, cat_int, cat_ref, cat_null, cat_ret, cat_long, grc_ref, narZ0, narZ1, true_and, and_true, decide_true, Nat.reduceAdd, Nat.reduceLeDiff, if_true, if_false, eq_self, gfld_in, gobj_in, garr_in, garq_in, glen_in, gisO_in, ex_some, List.getElem?_cons_succ, List.getElem?_cons_zero, List.length_cons, List.length_nil, List.set_cons_succ, List.set_cons_zero, Nat.reduceLT, va_up_eq, va_up_nl]
      exact hQ _ _ _ _ _ _ _
    · rw [if_neg q2]
      simp only [eX6_look_100, eX6_look_101, Option.toList_some, Option.toList_none, List.cons_append, List.nil_append, gcat_nil, gcat_cons, cat_int, cat_ref, cat_null, cat_ret, cat_long, grc_ref, narZ0, narZ1, true_and, and_true, decide_true, Nat.reduceAdd, Nat.reduceLeDiff, if_true, if_false, eq_self, gfld_in, gobj_in, garr_in, garq_in, glen_in, gisO_in, ex_some, List.getElem?_cons_succ, List.getElem?_cons_zero, List.length_cons, List.length_nil, List.set_cons_succ, List.set_cons_zero, Nat.reduceLT, va_up_eq, va_up_nl]
      exact hQ _ _ _ _ _ _ _
  · rw [if_neg q] at hQ
    exact outer (by omega) K 0 (-9, nI (l.length + 1)) al io ln fz fb _ _ (by omega) (fun al ln fz fb io => hQ al ln fz fb fo _ io)
end MH
