/-! THE MODEL: suspects (by numbers from 0 on: 0 is nobody) -/
def gsu (u : Nat) : Int32 := nI u - 1
def mfz (u : Nat) : Int32 := if u = 0 then -9 else nI ((u - 1) / 2)
def mfb (u : Nat) : Int32 := if u = 0 then 0 else if (u - 1) % 2 = 0 then -1 else 1
def gfl (p : Nat → Prop) [DecidablePred p] : Nat → Nat → List Nat
  | _, 0 => []
  | j, D + 1 => if p j then j :: gfl p (j + 1) D else gfl p (j + 1) D
theorem gfl_len (p : Nat → Prop) [DecidablePred p] : ∀ (D j : Nat), (gfl p j D).length ≤ D := by
  intro D
  induction D with
  | zero => intro j; exact Nat.le_refl _
  | succ D ih =>
    intro j
    have := ih (j + 1)
    rw [gfl]
    by_cases q : p j
    · rw [if_pos q, List.length_cons]; omega
    · rw [if_neg q]; omega
theorem gfl_mem (p : Nat → Prop) [DecidablePred p] {u : Nat} : ∀ (D j : Nat), u ∈ gfl p j D → p u ∧ j ≤ u ∧ u < j + D := by
  intro D
  induction D with
  | zero => intro j h; cases h
  | succ D ih =>
    intro j h
    rw [gfl] at h
    by_cases q : p j
    · rw [if_pos q] at h
      rcases List.mem_cons.mp h with rfl | h
      · exact ⟨q, by omega, by omega⟩
      · have := ih _ h; exact ⟨this.1, by omega, by omega⟩
    · rw [if_neg q] at h
      have := ih _ h; exact ⟨this.1, by omega, by omega⟩
/-- what was seen is so, by the suspect's way -/
abbrev mso (nw : Nat → Int32) (fz fb : Int32) (K N c x b : Nat) : Prop := c < K ∧ nI x ≤ nw (5 * c + 4) ∧ b ≤ N ∧ mbc nw fz fb (fun p => p) N c (nI x) = b
abbrev msa (nw : Nat → Int32) (fz fb : Int32) (K N : Nat) (Fk Fx Fb : Nat → Nat) (S : Nat) : Prop := ∀ f, f < S → mso nw fz fb K N (Fk f) (Fx f) (Fb f)
abbrev mtk (nw : Nat → Int32) (u : Nat) : Prop := u = 0 ∨ ¬ nw (3 * ((u - 1) / 2) + 32) = 2
def msl (nw : Nat → Int32) (K N : Nat) (Fk Fx Fb : Nat → Nat) (S : Nat) : Nat → Nat → List Nat := gfl (fun u => mtk nw u ∧ msa nw (mfz u) (mfb u) K N Fk Fx Fb S)
def mms (b : Nat) (s : (Nat → Int32) × Int32) : (Nat → Int32) × Int32 := (upd s.1 b (s.1 b + 1), if s.1 b + 1 ≤ s.2 then s.2 else s.1 b + 1)
def mmb (bc : Nat → Nat) (l : List Nat) : Nat → Nat → (Nat → Int32) × Int32 → (Nat → Int32) × Int32 := gfor (fun j s => mms (bc (l.getD j 0)) s)
def mlx (mb : Nat → Nat → Int32) (c : Nat) : Nat → Nat → Int32 × Int32 → Int32 × Int32 := gfor (fun x s => if mb c x < s.2 then (nI (10 * c + x), mb c x) else s)
def mlk (mb : Nat → Nat → Int32) (We : Nat → Nat) : Nat → Nat → Int32 × Int32 → Int32 × Int32 := gfor (fun c s => mlx mb c 0 (We c + 1) s)
def gagu (fo : Nat → Int32) (l : List Nat) : Prop := ∀ p, p < l.length → fo p = gsu (l.getD p 0)
theorem gagu_app {fo : Nat → Int32} {l : List Nat} {j : Nat} (h : gagu fo l) : gagu (upd fo l.length (gsu j)) (l ++ [j]) := by
  intro p hp
  rw [List.length_append, List.length_singleton] at hp
  by_cases q : p = l.length
  · subst q
    rw [List.getD_eq_getElem?_getD, List.getElem?_append_right (Nat.le_refl _), Nat.sub_self]
    simp [upd]
  · rw [List.getD_eq_getElem?_getD, List.getElem?_append_left (by omega), ← List.getD_eq_getElem?_getD]
    have := h p (by omega)
    simp only [upd, q, if_false]
    exact this
theorem gsu_div : ∀ m, m < 12 → nI m / 2 = nI (m / 2) ∧ ((nI m - nI m / 2 * 2 = 0) ↔ m % 2 = 0) ∧ ¬ nI m = -1 := by decide +kernel
theorem gsu_lt : ∀ N, N ≤ 6 → ∀ u, u ≤ 2 * N → ¬ nI (2 * N) ≤ gsu u := by
  have : ∀ N, N < 7 → ∀ u, u < 2 * N + 1 → ¬ nI (2 * N) ≤ gsu u := by decide +kernel
  exact fun N hN u hu => this N (by omega) u (by omega)
theorem gsu_end : ∀ N, N ≤ 6 → nI (2 * N) ≤ gsu (2 * N + 1) := by
  have : ∀ N, N < 7 → nI (2 * N) ≤ gsu (2 * N + 1) := by decide +kernel
  exact fun N hN => this N (by omega)
theorem gsu_inc (u : Nat) : gsu u + 1 = gsu (u + 1) := by
  unfold gsu
  rw [nI_pred]
  simp
section MG
variable {X : gX} {n k : Nat} {w : gH} {Q : Option Value → Nat → Nat → gH → Prop} {o : Nat} {nw rd ps im ik tx fa al be fo io : Nat → Int32} {de le pz tk ta va se it ln fz fb fm : Int32} {K N d L S : Nat} {We Fk Fx Fb : Nat → Nat} {a : Nat → Nat}
theorem c6_takeSuspect (hN : N ≤ 6) (h31 : nw 31 = nI N) {u : Nat} (hu : u ≤ 2 * N) : gEv (gT X) 176 0 [.ref o, .int (gsu u)] [] n k (mW w o nw rd ps de im ik tx le pz tk ta va fa se it al ln fz fb be fo fm io) Q ↔ Q (some (.int (gb (mtk nw u)))) n k (mW w o nw rd ps de im ik tx le pz tk ta va fa se it (mrng 0 N nI al) (nI N) (mfz u) (mfb u) be fo fm io) := by
  cases u with
  | zero =>
    have e0 : gsu 0 = -1 := by decide
    rw [e0]
    simp only [eX6_takeSuspect_0, eX6_takeSuspect_1, eX6_takeSuspect_4, eX6_takeSuspect_5, eX6_takeSuspect_6, eX6_takeSuspect_9, eX6_takeSuspect_10, Option.toList_some, Option.toList_none, List.cons_append, List.nil_append, gcat_nil, gcat_cons, cat_int, cat_ref, cat_null, cat_ret, cat_long, grc_ref, narZ0, narZ1, true_and, and_true, decide_true, Nat.reduceAdd, Nat.reduceLeDiff, if_true, if_false, eq_self, gfld_in, gobj_in, garr_in, garq_in, glen_in, gisO_in, ex_some, List.getElem?_cons_succ, List.getElem?_cons_zero, List.length_cons, List.length_nil, List.set_cons_succ, List.set_cons_zero, Nat.reduceLT, va_up_eq, va_up_nl, mW_0, c6_asTold hN h31, not_true_eq_false]
    rw [gb_t (show mtk nw 0 from Or.inl rfl)]
    rfl
  | succ m =>
    have e0 : gsu (m + 1) = nI m := nI_pred m
    obtain ⟨d1, d2, d3⟩ := gsu_div m (by omega)
    have h20 : ¬ (2 : Int32) = 0 := by decide
    have hm : m / 2 < 6 := by omega
    have f0 : ∀ {fb : Int32} {Q : Option Value → Nat → Nat → gH → Prop}, gEv (gT X) 139 0 [.ref o, .int (nI (m / 2)), .int 0] [] n k (mW w o nw rd ps de im ik tx le pz tk ta va fa se it (mrng 0 N nI al) (nI N) (nI (m / 2)) fb be fo fm io) Q ↔ Q (some (.int (nw (3 * (m / 2) + 32)))) n k (mW w o nw rd ps de im ik tx le pz tk ta va fa se it (mrng 0 N nI al) (nI N) (nI (m / 2)) fb be fo fm io) := c6_ofTest hm (f := 0) (by decide)
    have et : mtk nw (m + 1) ↔ ¬ nw (3 * (m / 2) + 32) = 2 := by
      unfold mtk
      rw [Nat.add_sub_cancel]
      exact ⟨fun z => z.resolve_left (by omega), Or.inr⟩
    have ez : mfz (m + 1) = nI (m / 2) := by unfold mfz; rw [if_neg (by omega), Nat.add_sub_cancel]
    have eb : mfb (m + 1) = if m % 2 = 0 then -1 else 1 := by unfold mfb; rw [if_neg (by omega), Nat.add_sub_cancel]
    rw [e0, ez, eb, gb_eq et]
    have tail : ∀ {fb : Int32}, (gEv (gT X) 176 33 [.ref o, .int (nI m)] [] n k (mW w o nw rd ps de im ik tx le pz tk ta va fa se it (mrng 0 N nI al) (nI N) (nI (m / 2)) fb be fo fm io) Q ↔ Q (some (.int (gb (¬ nw (3 * (m / 2) + 32) = 2)))) n k (mW w o nw rd ps de im ik tx le pz tk ta va fa se it (mrng 0 N nI al) (nI N) (nI (m / 2)) fb be fo fm io)) := by
      intro fb
      simp only [eX6_takeSuspect_33, eX6_takeSuspect_34, eX6_takeSuspect_35, eX6_takeSuspect_38, eX6_takeSuspect_39, eX6_takeSuspect_42, eX6_takeSuspect_43, eX6_takeSuspect_46, eX6_takeSuspect_47, eX6_takeSuspect_50, eX6_takeSuspect_51, Option.toList_some, Option.toList_none, List.cons_append, List.nil_append, gcat_nil, gcat_cons, cat_int, cat_ref, cat_null, cat_ret, cat_long, grc_ref, narZ0, narZ1, true_and, and_true, decide_true, Nat.reduceAdd, Nat.reduceLeDiff, if_true, if_false, eq_self, gfld_in, gobj_in, garr_in, garq_in, glen_in, gisO_in, ex_some, List.getElem?_cons_succ, List.getElem?_cons_zero, List.length_cons, List.length_nil, List.set_cons_succ, List.set_cons_zero, Nat.reduceLT, va_up_eq, va_up_nl, mW_0, f0]
      by_cases q : nw (3 * (m / 2) + 32) = 2
      · rw [if_pos q, gb_f (fun z => z q)]
      · rw [if_neg q, gb_t q]
    simp only [eX6_takeSuspect_0, eX6_takeSuspect_1, eX6_takeSuspect_4, eX6_takeSuspect_5, eX6_takeSuspect_6, eX6_takeSuspect_11, eX6_takeSuspect_12, eX6_takeSuspect_13, eX6_takeSuspect_14, eX6_takeSuspect_15, eX6_takeSuspect_18, eX6_takeSuspect_19, eX6_takeSuspect_20, eX6_takeSuspect_21, eX6_takeSuspect_22, Option.toList_some, Option.toList_none, List.cons_append, List.nil_append, gcat_nil, gcat_cons, cat_int, cat_ref, cat_null, cat_ret, cat_long, grc_ref, narZ0, narZ1, true_and, and_true, decide_true, Nat.reduceAdd, Nat.reduceLeDiff, if_true, if_false, eq_self, gfld_in, gobj_in, garr_in, garq_in, glen_in, gisO_in, ex_some, List.getElem?_cons_succ, List.getElem?_cons_zero, List.length_cons, List.length_nil, List.set_cons_succ, List.set_cons_zero, Nat.reduceLT, va_up_eq, va_up_nl, mW_0, c6_asTold hN h31, d3, not_false_eq_true, h20, mW_p0]
    by_cases q : m % 2 = 0
    · rw [if_neg (fun z => z (d2.mpr q)), if_pos q]
      simp only [eX6_takeSuspect_25, eX6_takeSuspect_26, eX6_takeSuspect_30, Option.toList_some, Option.toList_none, List.cons_append, List.nil_append, gcat_nil, gcat_cons, cat_int, cat_ref, cat_null, cat_ret, cat_long, grc_ref, narZ0, narZ1, true_and, and_true, decide_true, Nat.reduceAdd, Nat.reduceLeDiff, if_true, if_false, eq_self, gfld_in, gobj_in, garr_in, garq_in, glen_in, gisO_in, ex_some, List.getElem?_cons_succ, List.getElem?_cons_zero, List.length_cons, List.length_nil, List.set_cons_succ, List.set_cons_zero, Nat.reduceLT, va_up_eq, va_up_nl, mW_0, mW_p0, d1]
      exact tail
    · rw [if_pos (fun z => q (d2.mp z)), if_neg q]
      simp only [eX6_takeSuspect_29, eX6_takeSuspect_30, Option.toList_some, Option.toList_none, List.cons_append, List.nil_append, gcat_nil, gcat_cons, cat_int, cat_ref, cat_null, cat_ret, cat_long, grc_ref, narZ0, narZ1, true_and, and_true, decide_true, Nat.reduceAdd, Nat.reduceLeDiff, if_true, if_false, eq_self, gfld_in, gobj_in, garr_in, garq_in, glen_in, gisO_in, ex_some, List.getElem?_cons_succ, List.getElem?_cons_zero, List.length_cons, List.length_nil, List.set_cons_succ, List.set_cons_zero, Nat.reduceLT, va_up_eq, va_up_nl, mW_0, mW_p0, d1]
      exact tail
def gFa (fa : Nat → Int32) (Fk Fx Fb : Nat → Nat) (S : Nat) : Prop := S ≤ 6 ∧ ∀ f, f < S → fa (3 * f) = nI (Fk f) ∧ fa (3 * f + 1) = nI (Fx f) ∧ fa (3 * f + 2) = nI (Fb f) ∧ Fk f < 6 ∧ Fx f < 10 ∧ Fb f < 7
theorem c6_isSo (hN : N ≤ 6) (h31 : nw 31 = nI N) (hK : K ≤ 6) (h0 : nw 0 = nI K) (hF : gFa fa Fk Fx Fb S) {f : Nat} (hf : f < S) : gEv (gT X) 174 0 [.ref o, .int (nI f), .null, .null, .null] [] n k (mW w o nw rd ps de im ik tx le pz tk ta va fa se it (mrng 0 N nI al) (nI N) fz fb be fo fm io) Q ↔ Q (some (.int (gb (mso nw fz fb K N (Fk f) (Fx f) (Fb f))))) n k (mW w o nw rd ps de im ik tx le pz tk ta va fa se it (mrng 0 N nI al) (nI N) fz fb be fo fm io) := by
  obtain ⟨hS, hF⟩ := hF
  obtain ⟨q1, q2, q3, q4, q5, q6⟩ := hF f hf
  have e0 : 3 * nI f = nI (3 * f) := by rw [show (3 : Int32) = nI 3 from rfl, pk_mul]
  have v0 : vp_in (nI (3 * f)) 18 := vp_in_nI (by omega) (by omega)
  have v1 : vp_in (nI (3 * f + 1)) 18 := vp_in_nI (by omega) (by omega)
  have v2 : vp_in (nI (3 * f + 2)) 18 := vp_in_nI (by omega) (by omega)
  have f3 : ∀ {Q : Option Value → Nat → Nat → gH → Prop}, gEv (gT X) 138 0 [.ref o, .int (nI (Fk f)), .int 3] [] n k (mW w o nw rd ps de im ik tx le pz tk ta va fa se it (mrng 0 N nI al) (nI N) fz fb be fo fm io) Q ↔ Q (some (.int (nw (5 * Fk f + 4)))) n k (mW w o nw rd ps de im ik tx le pz tk ta va fa se it (mrng 0 N nI al) (nI N) fz fb be fo fm io) := c6_ofKind q4 (f := 3) (by decide)
  simp only [eX6_isSo_0, eX6_isSo_1, eX6_isSo_4, eX6_isSo_5, eX6_isSo_6, eX6_isSo_7, eX6_isSo_8, eX6_isSo_8b, eX6_isSo_8c, eX6_isSo_8d, eX6_isSo_9, eX6_isSo_10, eX6_isSo_13, eX6_isSo_14, eX6_isSo_15, eX6_isSo_16, eX6_isSo_17, eX6_isSo_18, eX6_isSo_19, eX6_isSo_19b, eX6_isSo_19c, eX6_isSo_19d, eX6_isSo_20, eX6_isSo_21, eX6_isSo_24, eX6_isSo_25, eX6_isSo_26, eX6_isSo_27, eX6_isSo_28, eX6_isSo_29, eX6_isSo_30, eX6_isSo_30b, eX6_isSo_30c, eX6_isSo_30d, eX6_isSo_32, eX6_isSo_33, eX6_isSo_34, eX6_isSo_37, Option.toList_some, Option.toList_none, List.cons_append, List.nil_append, gcat_nil, gcat_cons, cat_int, cat_ref, cat_null, cat_ret, cat_long, grc_ref, narZ0, narZ1, true_and, and_true, decide_true, Nat.reduceAdd, Nat.reduceLeDiff, if_true, if_false, eq_self, gfld_in, gobj_in, garr_in, garq_in, glen_in, gisO_in, ex_some, List.getElem?_cons_succ, List.getElem?_cons_zero, List.length_cons, List.length_nil, List.set_cons_succ, List.set_cons_zero, Nat.reduceLT, va_up_eq, va_up_nl, mW_0, mW_7, e0, v0, v1, v2, nI_1, nIp2, nI_clamp (show 3 * f < 2 ^ 31 by omega), nI_clamp (show 3 * f + 1 < 2 ^ 31 by omega), nI_clamp (show 3 * f + 2 < 2 ^ 31 by omega), q1, q2, q3, c6_isKind h0 hK, gb_0]
  have no : ∀ {p : Prop} [Decidable p] {v1 v2 v3 v4 : Value}, ¬ p → (gEv (gT X) 174 74 [.ref o, v1, v2, v3, v4] [] n k (mW w o nw rd ps de im ik tx le pz tk ta va fa se it (mrng 0 N nI al) (nI N) fz fb be fo fm io) Q ↔ Q (some (.int (gb p))) n k (mW w o nw rd ps de im ik tx le pz tk ta va fa se it (mrng 0 N nI al) (nI N) fz fb be fo fm io)) := by
    intro p _ v1 v2 v3 v4 h
    simp only [eX6_isSo_74, eX6_isSo_75, Option.toList_some, Option.toList_none, List.cons_append, List.nil_append, gcat_nil, gcat_cons, cat_int, cat_ref, cat_null, cat_ret, cat_long, grc_ref, narZ0, narZ1, true_and, and_true, decide_true, Nat.reduceAdd, Nat.reduceLeDiff, if_true, if_false, eq_self, gfld_in, gobj_in, garr_in, garq_in, glen_in, gisO_in, ex_some, List.getElem?_cons_succ, List.getElem?_cons_zero, List.length_cons, List.length_nil, List.set_cons_succ, List.set_cons_zero, Nat.reduceLT, va_up_eq, va_up_nl]
    rw [gb_f h]
  by_cases c1 : Fk f < K
  · have c1' : 0 ≤ nI (Fk f) ∧ nI (Fk f) < nI K := ⟨nI_pos' (by omega), nI_lt c1 (by omega)⟩
    rw [if_neg (fun z => z c1')]
    simp only [eX6_isSo_40, eX6_isSo_41, eX6_isSo_42, eX6_isSo_43, eX6_isSo_44, eX6_isSo_47, Option.toList_some, Option.toList_none, List.cons_append, List.nil_append, gcat_nil, gcat_cons, cat_int, cat_ref, cat_null, cat_ret, cat_long, grc_ref, narZ0, narZ1, true_and, and_true, decide_true, Nat.reduceAdd, Nat.reduceLeDiff, if_true, if_false, eq_self, gfld_in, gobj_in, garr_in, garq_in, glen_in, gisO_in, ex_some, List.getElem?_cons_succ, List.getElem?_cons_zero, List.length_cons, List.length_nil, List.set_cons_succ, List.set_cons_zero, Nat.reduceLT, va_up_eq, va_up_nl, mW_0, f3]
    by_cases c2 : nI (Fx f) ≤ nw (5 * Fk f + 4)
    · rw [if_neg (Int32.not_lt.mpr c2)]
      simp only [eX6_isSo_50, eX6_isSo_51, eX6_isSo_53, eX6_isSo_56, Option.toList_some, Option.toList_none, List.cons_append, List.nil_append, gcat_nil, gcat_cons, cat_int, cat_ref, cat_null, cat_ret, cat_long, grc_ref, narZ0, narZ1, true_and, and_true, decide_true, Nat.reduceAdd, Nat.reduceLeDiff, if_true, if_false, eq_self, gfld_in, gobj_in, garr_in, garq_in, glen_in, gisO_in, ex_some, List.getElem?_cons_succ, List.getElem?_cons_zero, List.length_cons, List.length_nil, List.set_cons_succ, List.set_cons_zero, Nat.reduceLT, va_up_eq, va_up_nl, mW_0, c6_isBin h31, gb_0]
      by_cases c3 : Fb f ≤ N
      · have c3' : 0 ≤ nI (Fb f) ∧ nI (Fb f) ≤ nI N := ⟨nI_pos' (by omega), nI_le c3 (by omega)⟩
        rw [if_neg (fun z => z c3')]
        simp only [eX6_isSo_59, eX6_isSo_60, eX6_isSo_61, eX6_isSo_62, eX6_isSo_65, eX6_isSo_67, Option.toList_some, Option.toList_none, List.cons_append, List.nil_append, gcat_nil, gcat_cons, cat_int, cat_ref, cat_null, cat_ret, cat_long, grc_ref, narZ0, narZ1, true_and, and_true, decide_true, Nat.reduceAdd, Nat.reduceLeDiff, if_true, if_false, eq_self, gfld_in, gobj_in, garr_in, garq_in, glen_in, gisO_in, ex_some, List.getElem?_cons_succ, List.getElem?_cons_zero, List.length_cons, List.length_nil, List.set_cons_succ, List.set_cons_zero, Nat.reduceLT, va_up_eq, va_up_nl, mW_0, c6_binBy hN (halT hN) q4]
        have hle : mbc nw fz fb (fun p => p) N (Fk f) (nI (Fx f)) ≤ N := mbn_le
        by_cases c4 : mbc nw fz fb (fun p => p) N (Fk f) (nI (Fx f)) = Fb f
        · rw [if_neg (fun z => z (by rw [c4])), gb_t (show mso nw fz fb K N (Fk f) (Fx f) (Fb f) from ⟨c1, c2, c3, c4⟩)]
          simp only [eX6_isSo_70, eX6_isSo_71, eX6_isSo_75, Option.toList_some, Option.toList_none, List.cons_append, List.nil_append, gcat_nil, gcat_cons, cat_int, cat_ref, cat_null, cat_ret, cat_long, grc_ref, narZ0, narZ1, true_and, and_true, decide_true, Nat.reduceAdd, Nat.reduceLeDiff, if_true, if_false, eq_self, gfld_in, gobj_in, garr_in, garq_in, glen_in, gisO_in, ex_some, List.getElem?_cons_succ, List.getElem?_cons_zero, List.length_cons, List.length_nil, List.set_cons_succ, List.set_cons_zero, Nat.reduceLT, va_up_eq, va_up_nl]
        · rw [if_pos (fun z => c4 ((nI_eq (by omega) (by omega)).mp z))]
          exact no (fun z => c4 z.2.2.2)
      · rw [if_pos (fun z => nI_ge (show N < Fb f by omega) (by omega) z.2)]
        exact no (fun z => c3 z.2.2.1)
    · rw [if_pos (Int32.not_le.mp c2)]
      exact no (fun z => c2 z.2.1)
  · rw [if_pos (fun z => nI_nlt (show K ≤ Fk f by omega) (by omega) z.2)]
    exact no (fun z => c1 z.1)
theorem c6_areSo (hN : N ≤ 6) (h31 : nw 31 = nI N) (hK : K ≤ 6) (h0 : nw 0 = nI K) (hF : gFa fa Fk Fx Fb S) : gEv (gT X) 175 0 [.ref o, .null, .null] [] n k (mW w o nw rd ps de im ik tx le pz tk ta va fa (nI S) it (mrng 0 N nI al) (nI N) fz fb be fo fm io) Q ↔ Q (some (.int (gb (msa nw fz fb K N Fk Fx Fb S)))) n k (mW w o nw rd ps de im ik tx le pz tk ta va fa (nI S) it (mrng 0 N nI al) (nI N) fz fb be fo fm io) := by
  have hS := hF.1
  have h10 : ¬ (1 : Int32) = 0 := by decide
  have loop : ∀ (D j : Nat), j + D = S → (gEv (gT X) 175 4 [.ref o, .int (gb (msa nw fz fb K N Fk Fx Fb j)), .int (nI j)] [] n k (mW w o nw rd ps de im ik tx le pz tk ta va fa (nI S) it (mrng 0 N nI al) (nI N) fz fb be fo fm io) Q ↔ Q (some (.int (gb (msa nw fz fb K N Fk Fx Fb S)))) n k (mW w o nw rd ps de im ik tx le pz tk ta va fa (nI S) it (mrng 0 N nI al) (nI N) fz fb be fo fm io)) := by
    intro D
    induction D with
    | zero =>
      intro j hj
      have hc : nI S ≤ nI j := nI_le (by omega) (by omega)
      rw [show j = S by omega] at hc ⊢
      rw [eX6_areSo_4]
      by_cases q : msa nw fz fb K N Fk Fx Fb S
      · simp only [eX6_areSo_5, eX6_areSo_6, eX6_areSo_9, eX6_areSo_36, eX6_areSo_37, Option.toList_some, Option.toList_none, List.cons_append, List.nil_append, gcat_nil, gcat_cons, cat_int, cat_ref, cat_null, cat_ret, cat_long, grc_ref, narZ0, narZ1, true_and, and_true, decide_true, Nat.reduceAdd, Nat.reduceLeDiff, if_true, if_false, eq_self, gfld_in, gobj_in, garr_in, garq_in, glen_in, gisO_in, ex_some, List.getElem?_cons_succ, List.getElem?_cons_zero, List.length_cons, List.length_nil, List.set_cons_succ, List.set_cons_zero, Nat.reduceLT, va_up_eq, va_up_nl, mW_0, hc, gb_t q]
      · simp only [eX6_areSo_5, eX6_areSo_6, eX6_areSo_9, eX6_areSo_36, eX6_areSo_37, Option.toList_some, Option.toList_none, List.cons_append, List.nil_append, gcat_nil, gcat_cons, cat_int, cat_ref, cat_null, cat_ret, cat_long, grc_ref, narZ0, narZ1, true_and, and_true, decide_true, Nat.reduceAdd, Nat.reduceLeDiff, if_true, if_false, eq_self, gfld_in, gobj_in, garr_in, garq_in, glen_in, gisO_in, ex_some, List.getElem?_cons_succ, List.getElem?_cons_zero, List.length_cons, List.length_nil, List.set_cons_succ, List.set_cons_zero, Nat.reduceLT, va_up_eq, va_up_nl, mW_0, hc, gb_f q]
    | succ D ih =>
      intro j hj
      have hc : ¬ nI S ≤ nI j := nI_ge (by omega) (by omega)
      have hjS : j < S := by omega
      rw [eX6_areSo_4]
      simp only [eX6_areSo_5, eX6_areSo_6, eX6_areSo_9, eX6_areSo_12, eX6_areSo_13, Option.toList_some, Option.toList_none, List.cons_append, List.nil_append, gcat_nil, gcat_cons, cat_int, cat_ref, cat_null, cat_ret, cat_long, grc_ref, narZ0, narZ1, true_and, and_true, decide_true, Nat.reduceAdd, Nat.reduceLeDiff, if_true, if_false, eq_self, gfld_in, gobj_in, garr_in, garq_in, glen_in, gisO_in, ex_some, List.getElem?_cons_succ, List.getElem?_cons_zero, List.length_cons, List.length_nil, List.set_cons_succ, List.set_cons_zero, Nat.reduceLT, va_up_eq, va_up_nl, mW_0, hc, gb_0]
      have i1 := ih (j + 1) (by omega)
      by_cases q : msa nw fz fb K N Fk Fx Fb j
      · rw [if_neg (fun z => z q)]
        simp only [eX6_areSo_16, eX6_areSo_17, eX6_areSo_18, eX6_areSo_21, Option.toList_some, Option.toList_none, List.cons_append, List.nil_append, gcat_nil, gcat_cons, cat_int, cat_ref, cat_null, cat_ret, cat_long, grc_ref, narZ0, narZ1, true_and, and_true, decide_true, Nat.reduceAdd, Nat.reduceLeDiff, if_true, if_false, eq_self, gfld_in, gobj_in, garr_in, garq_in, glen_in, gisO_in, ex_some, List.getElem?_cons_succ, List.getElem?_cons_zero, List.length_cons, List.length_nil, List.set_cons_succ, List.set_cons_zero, Nat.reduceLT, va_up_eq, va_up_nl, mW_0, c6_isSo hN h31 hK h0 hF hjS, gb_0]
        by_cases q2 : mso nw fz fb K N (Fk j) (Fx j) (Fb j)
        · rw [if_neg (fun z => z q2)]
          have q3 : msa nw fz fb K N Fk Fx Fb (j + 1) := fun f hf => by
            by_cases h : f = j
            · rw [h]; exact q2
            · exact q f (by omega)
          rw [gb_t q3] at i1
          simp only [eX6_areSo_24, eX6_areSo_25, eX6_areSo_29, eX6_areSo_29b, eX6_areSo_29c, eX6_areSo_29d, eX6_areSo_30, eX6_areSo_30b, eX6_areSo_30c, eX6_areSo_30d, eX6_areSo_33, Option.toList_some, Option.toList_none, List.cons_append, List.nil_append, gcat_nil, gcat_cons, cat_int, cat_ref, cat_null, cat_ret, cat_long, grc_ref, narZ0, narZ1, true_and, and_true, decide_true, Nat.reduceAdd, Nat.reduceLeDiff, if_true, if_false, eq_self, gfld_in, gobj_in, garr_in, garq_in, glen_in, gisO_in, ex_some, List.getElem?_cons_succ, List.getElem?_cons_zero, List.length_cons, List.length_nil, List.set_cons_succ, List.set_cons_zero, Nat.reduceLT, va_up_eq, va_up_nl, nI_1]
          exact i1
        · rw [if_pos q2]
          rw [gb_f (show ¬ msa nw fz fb K N Fk Fx Fb (j + 1) from fun z => q2 (z j (by omega)))] at i1
          simp only [eX6_areSo_28, eX6_areSo_29, eX6_areSo_29b, eX6_areSo_29c, eX6_areSo_29d, eX6_areSo_30, eX6_areSo_30b, eX6_areSo_30c, eX6_areSo_30d, eX6_areSo_33, Option.toList_some, Option.toList_none, List.cons_append, List.nil_append, gcat_nil, gcat_cons, cat_int, cat_ref, cat_null, cat_ret, cat_long, grc_ref, narZ0, narZ1, true_and, and_true, decide_true, Nat.reduceAdd, Nat.reduceLeDiff, if_true, if_false, eq_self, gfld_in, gobj_in, garr_in, garq_in, glen_in, gisO_in, ex_some, List.getElem?_cons_succ, List.getElem?_cons_zero, List.length_cons, List.length_nil, List.set_cons_succ, List.set_cons_zero, Nat.reduceLT, va_up_eq, va_up_nl, nI_1]
          exact i1
      · rw [if_pos q]
        rw [gb_f (show ¬ msa nw fz fb K N Fk Fx Fb (j + 1) from fun z => q (fun f hf => z f (by omega)))] at i1
        simp only [eX6_areSo_28, eX6_areSo_29, eX6_areSo_29b, eX6_areSo_29c, eX6_areSo_29d, eX6_areSo_30, eX6_areSo_30b, eX6_areSo_30c, eX6_areSo_30d, eX6_areSo_33, Option.toList_some, Option.toList_none, List.cons_append, List.nil_append, gcat_nil, gcat_cons, cat_int, cat_ref, cat_null, cat_ret, cat_long, grc_ref, narZ0, narZ1, true_and, and_true, decide_true, Nat.reduceAdd, Nat.reduceLeDiff, if_true, if_false, eq_self, gfld_in, gobj_in, garr_in, garq_in, glen_in, gisO_in, ex_some, List.getElem?_cons_succ, List.getElem?_cons_zero, List.length_cons, List.length_nil, List.set_cons_succ, List.set_cons_zero, Nat.reduceLT, va_up_eq, va_up_nl, nI_1]
        exact i1
  have l0 := loop S 0 (by omega)
  rw [gb_t (show msa nw fz fb K N Fk Fx Fb 0 from fun f hf => absurd hf (by omega))] at l0
  simp only [eX6_areSo_0, eX6_areSo_1, eX6_areSo_1b, eX6_areSo_1c, eX6_areSo_1d, eX6_areSo_2, eX6_areSo_3, eX6_areSo_3b, eX6_areSo_3c, eX6_areSo_3d, Option.toList_some, Option.toList_none, List.cons_append, List.nil_append, gcat_nil, gcat_cons, cat_int, cat_ref, cat_null, cat_ret, cat_long, grc_ref, narZ0, narZ1, true_and, and_true, decide_true, Nat.reduceAdd, Nat.reduceLeDiff, if_true, if_false, eq_self, gfld_in, gobj_in, garr_in, garq_in, glen_in, gisO_in, ex_some, List.getElem?_cons_succ, List.getElem?_cons_zero, List.length_cons, List.length_nil, List.set_cons_succ, List.set_cons_zero, Nat.reduceLT, va_up_eq, va_up_nl]
  exact l0
theorem mrng_twice {N : Nat} {f g : Nat → Int32} : mrng 0 N f (mrng 0 N f g) = mrng 0 N f g := by
  funext z
  unfold mrng
  by_cases q : 0 ≤ z ∧ z < N
  · rw [if_pos q, if_pos q]
  · rw [if_neg q]
theorem c6_findSuspects (hN : N ≤ 6) (h31 : nw 31 = nI N) (hK : K ≤ 6) (h0 : nw 0 = nI K) (hF : gFa fa Fk Fx Fb S) (hQ : ∀ al ln fz fb fo, gagu fo (msl nw K N Fk Fx Fb S 0 (2 * N + 1)) → Q none n k (mW w o nw rd ps de im ik tx le pz tk ta va fa (nI S) it al ln fz fb be fo (nI (msl nw K N Fk Fx Fb S 0 (2 * N + 1)).length) io)) : gEv (gT X) 177 0 [.ref o, .null] [] n k (mW w o nw rd ps de im ik tx le pz tk ta va fa (nI S) it al ln fz fb be fo fm io) Q := by
  have v31 : vp_in 31 59 := vp_in_nI (n := 31) (by omega) (by omega)
  have y31 : (31 : Int32).toNatClampNeg = 31 := by decide
  have e2 : 2 * nI N = nI (2 * N) := by rw [show (2 : Int32) = nI 2 from rfl, pk_mul]
  have loop : ∀ (D u : Nat) (l : List Nat) (al fo : Nat → Int32) (ln fz fb : Int32), u + D = 2 * N + 1 → l.length ≤ u → gagu fo l → (∀ al ln fz fb fo, gagu fo (l ++ msl nw K N Fk Fx Fb S u D) → Q none n k (mW w o nw rd ps de im ik tx le pz tk ta va fa (nI S) it al ln fz fb be fo (nI (l ++ msl nw K N Fk Fx Fb S u D).length) io)) → gEv (gT X) 177 7 [.ref o, .int (gsu u)] [] n k (mW w o nw rd ps de im ik tx le pz tk ta va fa (nI S) it al ln fz fb be fo (nI l.length) io) Q := by
    intro D
    induction D with
    | zero =>
      intro u l al fo ln fz fb hu hl hg hq
      have hc : nI (2 * N) ≤ gsu u := by rw [show u = 2 * N + 1 by omega]; exact gsu_end N hN
      rw [eX6_findSuspects_7]
      simp only [eX6_findSuspects_8, eX6_findSuspects_9, eX6_findSuspects_10, eX6_findSuspects_13, eX6_findSuspects_15, eX6_findSuspects_16, eX6_findSuspects_17, eX6_findSuspects_61, Option.toList_some, Option.toList_none, List.cons_append, List.nil_append, gcat_nil, gcat_cons, cat_int, cat_ref, cat_null, cat_ret, cat_long, grc_ref, narZ0, narZ1, true_and, and_true, decide_true, Nat.reduceAdd, Nat.reduceLeDiff, if_true, if_false, eq_self, gfld_in, gobj_in, garr_in, garq_in, glen_in, gisO_in, ex_some, List.getElem?_cons_succ, List.getElem?_cons_zero, List.length_cons, List.length_nil, List.set_cons_succ, List.set_cons_zero, Nat.reduceLT, va_up_eq, va_up_nl, mW_0, mW_1, v31, y31, h31, e2, hc]
      have := hq al ln fz fb fo
      unfold msl at this
      rw [gfl, List.append_nil] at this
      exact this hg
    | succ D ih =>
      intro u l al fo ln fz fb hu hl hg hq
      have hc : ¬ nI (2 * N) ≤ gsu u := gsu_lt N hN u (by omega)
      have skip : ∀ (al fo : Nat → Int32) (ln fz fb : Int32), gagu fo l → ¬ (mtk nw u ∧ msa nw (mfz u) (mfb u) K N Fk Fx Fb S) → gEv (gT X) 177 55 [.ref o, .int (gsu u)] [] n k (mW w o nw rd ps de im ik tx le pz tk ta va fa (nI S) it al ln fz fb be fo (nI l.length) io) Q := by
        intro al fo ln fz fb hg hn
        have e : msl nw K N Fk Fx Fb S u (D + 1) = msl nw K N Fk Fx Fb S (u + 1) D := by unfold msl; rw [gfl, if_neg hn]
        rw [e] at hq
        simp only [eX6_findSuspects_55, eX6_findSuspects_55b, eX6_findSuspects_55c, eX6_findSuspects_55d, eX6_findSuspects_58, Option.toList_some, Option.toList_none, List.cons_append, List.nil_append, gcat_nil, gcat_cons, cat_int, cat_ref, cat_null, cat_ret, cat_long, grc_ref, narZ0, narZ1, true_and, and_true, decide_true, Nat.reduceAdd, Nat.reduceLeDiff, if_true, if_false, eq_self, gfld_in, gobj_in, garr_in, garq_in, glen_in, gisO_in, ex_some, List.getElem?_cons_succ, List.getElem?_cons_zero, List.length_cons, List.length_nil, List.set_cons_succ, List.set_cons_zero, Nat.reduceLT, va_up_eq, va_up_nl, gsu_inc]
        exact ih (u + 1) l al fo ln fz fb (by omega) (by omega) hg hq
      rw [eX6_findSuspects_7]
      simp only [eX6_findSuspects_8, eX6_findSuspects_9, eX6_findSuspects_10, eX6_findSuspects_13, eX6_findSuspects_15, eX6_findSuspects_16, eX6_findSuspects_17, eX6_findSuspects_20, eX6_findSuspects_21, eX6_findSuspects_22, eX6_findSuspects_25, Option.toList_some, Option.toList_none, List.cons_append, List.nil_append, gcat_nil, gcat_cons, cat_int, cat_ref, cat_null, cat_ret, cat_long, grc_ref, narZ0, narZ1, true_and, and_true, decide_true, Nat.reduceAdd, Nat.reduceLeDiff, if_true, if_false, eq_self, gfld_in, gobj_in, garr_in, garq_in, glen_in, gisO_in, ex_some, List.getElem?_cons_succ, List.getElem?_cons_zero, List.length_cons, List.length_nil, List.set_cons_succ, List.set_cons_zero, Nat.reduceLT, va_up_eq, va_up_nl, mW_0, mW_1, v31, y31, h31, e2, hc, c6_takeSuspect hN h31 (show u ≤ 2 * N by omega), gb_0]
      by_cases q : mtk nw u
      · rw [if_neg (fun z => z q)]
        simp only [eX6_findSuspects_28, eX6_findSuspects_29, eX6_findSuspects_32, Option.toList_some, Option.toList_none, List.cons_append, List.nil_append, gcat_nil, gcat_cons, cat_int, cat_ref, cat_null, cat_ret, cat_long, grc_ref, narZ0, narZ1, true_and, and_true, decide_true, Nat.reduceAdd, Nat.reduceLeDiff, if_true, if_false, eq_self, gfld_in, gobj_in, garr_in, garq_in, glen_in, gisO_in, ex_some, List.getElem?_cons_succ, List.getElem?_cons_zero, List.length_cons, List.length_nil, List.set_cons_succ, List.set_cons_zero, Nat.reduceLT, va_up_eq, va_up_nl, mW_0, c6_areSo hN h31 hK h0 hF, gb_0]
        by_cases q2 : msa nw (mfz u) (mfb u) K N Fk Fx Fb S
        · rw [if_neg (fun z => z q2)]
          have e : msl nw K N Fk Fx Fb S u (D + 1) = u :: msl nw K N Fk Fx Fb S (u + 1) D := by unfold msl; rw [gfl, if_pos ⟨q, q2⟩]
          rw [e] at hq
          have vl : vp_in (nI l.length) 13 := vp_in_nI (by omega) (by omega)
          simp only [eX6_findSuspects_35, eX6_findSuspects_36, eX6_findSuspects_39, eX6_findSuspects_40, eX6_findSuspects_43, eX6_findSuspects_44, eX6_findSuspects_45, eX6_findSuspects_46, eX6_findSuspects_46b, eX6_findSuspects_47, eX6_findSuspects_50, eX6_findSuspects_51, eX6_findSuspects_52, eX6_findSuspects_55, eX6_findSuspects_55b, eX6_findSuspects_55c, eX6_findSuspects_55d, eX6_findSuspects_58, Option.toList_some, Option.toList_none, List.cons_append, List.nil_append, gcat_nil, gcat_cons, cat_int, cat_ref, cat_null, cat_ret, cat_long, grc_ref, narZ0, narZ1, true_and, and_true, decide_true, Nat.reduceAdd, Nat.reduceLeDiff, if_true, if_false, eq_self, gfld_in, gobj_in, garr_in, garq_in, glen_in, gisO_in, ex_some, List.getElem?_cons_succ, List.getElem?_cons_zero, List.length_cons, List.length_nil, List.set_cons_succ, List.set_cons_zero, Nat.reduceLT, va_up_eq, va_up_nl, mW_0, mW_10, vl, nI_clamp (show l.length < 2 ^ 31 by omega), mW_p10, mW_p0, nI_1, gsu_inc]
          have h := ih (u + 1) (l ++ [u]) (mrng 0 N nI al) (upd fo l.length (gsu u)) (nI N) (mfz u) (mfb u) (by omega) (by rw [List.length_append, List.length_singleton]; omega) (gagu_app hg)
          rw [List.append_assoc, List.singleton_append, show (l ++ [u]).length = l.length + 1 by rw [List.length_append, List.length_singleton]] at h
          exact h hq
        · rw [if_pos q2]
          exact skip _ _ _ _ _ hg (fun z => q2 z.2)
      · rw [if_pos q]
        exact skip _ _ _ _ _ hg (fun z => q z.1)
  have e1 : (-1 : Int32) = gsu 0 := by decide
  simp only [eX6_findSuspects_0, eX6_findSuspects_1, eX6_findSuspects_2, eX6_findSuspects_5, eX6_findSuspects_6, eX6_findSuspects_6b, eX6_findSuspects_6c, eX6_findSuspects_6d, Option.toList_some, Option.toList_none, List.cons_append, List.nil_append, gcat_nil, gcat_cons, cat_int, cat_ref, cat_null, cat_ret, cat_long, grc_ref, narZ0, narZ1, true_and, and_true, decide_true, Nat.reduceAdd, Nat.reduceLeDiff, if_true, if_false, eq_self, gfld_in, gobj_in, garr_in, garq_in, glen_in, gisO_in, ex_some, List.getElem?_cons_succ, List.getElem?_cons_zero, List.length_cons, List.length_nil, List.set_cons_succ, List.set_cons_zero, Nat.reduceLT, va_up_eq, va_up_nl, mW_0, mW_p0, e1]
  exact loop (2 * N + 1) 0 [] al fo ln fz fb (by omega) (Nat.le_refl _) (fun p hp => absurd hp (by simp)) hQ
theorem c6_suspects_bad {a : Int32} (h : ¬ (0 ≤ a ∧ a ≤ 1)) : gEv (gT X) 178 0 [.ref o, .int a] [] n k (mW w o nw rd ps de im ik tx le pz tk ta va fa se it al ln fz fb be fo fm io) Q ↔ Q (some (.int (-1000000))) n k (mW w o nw rd ps de im ik tx le pz tk ta va fa se it al ln fz fb be fo fm io) := by
  simp only [eX6_suspects_0, eX6_suspects_1, eX6_suspects_2, eX6_suspects_3, eX6_suspects_6, eX6_suspects_9, eX6_suspects_11, Option.toList_some, Option.toList_none, List.cons_append, List.nil_append, gcat_nil, gcat_cons, cat_int, cat_ref, cat_null, cat_ret, cat_long, grc_ref, narZ0, narZ1, true_and, and_true, decide_true, Nat.reduceAdd, Nat.reduceLeDiff, if_true, if_false, eq_self, gfld_in, gobj_in, garr_in, garq_in, glen_in, gisO_in, ex_some, List.getElem?_cons_succ, List.getElem?_cons_zero, List.length_cons, List.length_nil, List.set_cons_succ, List.set_cons_zero, Nat.reduceLT, va_up_eq, va_up_nl, c6_in, gb_0, h, not_false_eq_true, not_true_eq_false]
def mfs (l : List Nat) : Int32 := if l.length = 0 then -9 else gsu (l.getD 0 0)
theorem c6_suspects (hN : N ≤ 6) (h31 : nw 31 = nI N) (hK : K ≤ 6) (h0 : nw 0 = nI K) (hF : gFa fa Fk Fx Fb S) {f : Nat} (hf : f ≤ 1) (hQ : ∀ al ln fz fb fo, Q (some (.int (if f = 0 then nI (msl nw K N Fk Fx Fb S 0 (2 * N + 1)).length else mfs (msl nw K N Fk Fx Fb S 0 (2 * N + 1))))) n k (mW w o nw rd ps de im ik tx le pz tk ta va fa (nI S) it al ln fz fb be fo (nI (msl nw K N Fk Fx Fb S 0 (2 * N + 1)).length) io)) : gEv (gT X) 178 0 [.ref o, .int (nI f)] [] n k (mW w o nw rd ps de im ik tx le pz tk ta va fa (nI S) it al ln fz fb be fo fm io) Q := by
  have hi : 0 ≤ nI f ∧ nI f ≤ 1 := ⟨nI_pos' (by omega), nI_le (b := 1) hf (by omega)⟩
  simp only [eX6_suspects_0, eX6_suspects_1, eX6_suspects_2, eX6_suspects_3, eX6_suspects_6, eX6_suspects_12, eX6_suspects_13, Option.toList_some, Option.toList_none, List.cons_append, List.nil_append, gcat_nil, gcat_cons, cat_int, cat_ref, cat_null, cat_ret, cat_long, grc_ref, narZ0, narZ1, true_and, and_true, decide_true, Nat.reduceAdd, Nat.reduceLeDiff, if_true, if_false, eq_self, gfld_in, gobj_in, garr_in, garq_in, glen_in, gisO_in, ex_some, List.getElem?_cons_succ, List.getElem?_cons_zero, List.length_cons, List.length_nil, List.set_cons_succ, List.set_cons_zero, Nat.reduceLT, va_up_eq, va_up_nl, mW_0, c6_in, gb_0, hi, not_true_eq_false, not_false_eq_true]
  refine c6_findSuspects hN h31 hK h0 hF ?_
  intro al ln fz fb fo hg
  have hQ := hQ al ln fz fb fo
  have hl : (msl nw K N Fk Fx Fb S 0 (2 * N + 1)).length ≤ 2 * N + 1 := gfl_len _ _ _
  generalize msl nw K N Fk Fx Fb S 0 (2 * N + 1) = l at *
  have hc : f = 0 ∨ f = 1 := by omega
  rcases hc with rfl | rfl
  · have z0 : nI 0 = 0 := rfl
    simp only [eX6_suspects_16, eX6_suspects_17, eX6_suspects_20, eX6_suspects_21, eX6_suspects_24, eX6_suspects_45, Option.toList_some, Option.toList_none, List.cons_append, List.nil_append, gcat_nil, gcat_cons, cat_int, cat_ref, cat_null, cat_ret, cat_long, grc_ref, narZ0, narZ1, true_and, and_true, decide_true, Nat.reduceAdd, Nat.reduceLeDiff, if_true, if_false, eq_self, gfld_in, gobj_in, garr_in, garq_in, glen_in, gisO_in, ex_some, List.getElem?_cons_succ, List.getElem?_cons_zero, List.length_cons, List.length_nil, List.set_cons_succ, List.set_cons_zero, Nat.reduceLT, va_up_eq, va_up_nl, mW_0, z0, not_true_eq_false]
    exact hQ
  · have z1 : nI 1 = 1 := rfl
    have z2 : ¬ (1 : Int32) = 0 := by decide
    have v0 : vp_in 0 13 := vp_in_nI (n := 0) (by omega) (by omega)
    have y0 : (0 : Int32).toNatClampNeg = 0 := by decide
    simp only [eX6_suspects_16, eX6_suspects_17, eX6_suspects_27, eX6_suspects_28, eX6_suspects_31, Option.toList_some, Option.toList_none, List.cons_append, List.nil_append, gcat_nil, gcat_cons, cat_int, cat_ref, cat_null, cat_ret, cat_long, grc_ref, narZ0, narZ1, true_and, and_true, decide_true, Nat.reduceAdd, Nat.reduceLeDiff, if_true, if_false, eq_self, gfld_in, gobj_in, garr_in, garq_in, glen_in, gisO_in, ex_some, List.getElem?_cons_succ, List.getElem?_cons_zero, List.length_cons, List.length_nil, List.set_cons_succ, List.set_cons_zero, Nat.reduceLT, va_up_eq, va_up_nl, mW_0, z1, z2, not_false_eq_true]
    rw [if_neg (by omega)] at hQ
    unfold mfs at hQ
    by_cases q : l.length = 0
    · rw [if_pos q] at hQ
      rw [if_neg (fun z => z (by rw [q]; rfl))]
      simp only [eX6_suspects_34, eX6_suspects_36, eX6_suspects_45, Option.toList_some, Option.toList_none, List.cons_append, List.nil_append, gcat_nil, gcat_cons, cat_int, cat_ref, cat_null, cat_ret, cat_long, grc_ref, narZ0, narZ1, true_and, and_true, decide_true, Nat.reduceAdd, Nat.reduceLeDiff, if_true, if_false, eq_self, gfld_in, gobj_in, garr_in, garq_in, glen_in, gisO_in, ex_some, List.getElem?_cons_succ, List.getElem?_cons_zero, List.length_cons, List.length_nil, List.set_cons_succ, List.set_cons_zero, Nat.reduceLT, va_up_eq, va_up_nl]
      exact hQ
    · rw [if_neg q] at hQ
      rw [if_pos (nI_ne0 (by omega) (by omega))]
      simp only [eX6_suspects_39, eX6_suspects_40, eX6_suspects_43, eX6_suspects_44, eX6_suspects_45, Option.toList_some, Option.toList_none, List.cons_append, List.nil_append, gcat_nil, gcat_cons, cat_int, cat_ref, cat_null, cat_ret, cat_long, grc_ref, narZ0, narZ1, true_and, and_true, decide_true, Nat.reduceAdd, Nat.reduceLeDiff, if_true, if_false, eq_self, gfld_in, gobj_in, garr_in, garq_in, glen_in, gisO_in, ex_some, List.getElem?_cons_succ, List.getElem?_cons_zero, List.length_cons, List.length_nil, List.set_cons_succ, List.set_cons_zero, Nat.reduceLT, va_up_eq, va_up_nl, mW_0, mW_10, v0, y0, hg 0 (by omega)]
      exact hQ
end MG
