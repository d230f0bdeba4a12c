/-! THE MODEL: what is done to it -/
/-- a row with the places lo .. hi - 1 as f has them -/
def mrng (lo hi : Nat) (f g : Nat → Int32) : Nat → Int32 := fun z => if lo ≤ z ∧ z < hi then f z else g z
theorem mrng_nil {lo : Nat} {f g : Nat → Int32} : mrng lo lo f g = g := by
  funext z
  unfold mrng
  rw [if_neg (by omega)]
theorem mrng_up {lo k : Nat} {f g : Nat → Int32} {x : Int32} (h : lo ≤ k) (hx : x = f k) : upd (mrng lo k f g) k x = mrng lo (k + 1) f g := by
  funext z
  simp only [upd, mrng]
  by_cases hz : z = k
  · subst hz
    rw [if_pos rfl, if_pos ⟨h, by omega⟩, hx]
  · rw [if_neg hz]
    by_cases h2 : lo ≤ z ∧ z < k
    · rw [if_pos h2, if_pos ⟨h2.1, by omega⟩]
    · rw [if_neg h2, if_neg (by omega)]
theorem mrng_dn {hi k : Nat} {f g : Nat → Int32} {x : Int32} (h : k < hi) (hx : x = f k) : upd (mrng (k + 1) hi f g) k x = mrng k hi f g := by
  funext z
  simp only [upd, mrng]
  by_cases hz : z = k
  · subst hz
    rw [if_pos rfl, if_pos ⟨by omega, h⟩, hx]
  · rw [if_neg hz]
    by_cases h2 : k + 1 ≤ z ∧ z < hi
    · rw [if_pos h2, if_pos ⟨by omega, h2.2⟩]
    · rw [if_neg h2, if_neg (by omega)]
theorem mrng_in {lo hi z : Nat} {f g : Nat → Int32} (h : lo ≤ z) (h2 : z < hi) : mrng lo hi f g z = f z := if_pos ⟨h, h2⟩
theorem mrng_out {lo hi z : Nat} {f g : Nat → Int32} (h : z < lo ∨ hi ≤ z) : mrng lo hi f g z = g z := if_neg (by omega)
theorem va_up_up {w : gH} {a : Nat} {e e' : gE} : va_up (va_up w a e) a e' = va_up w a e' := by
  funext z
  simp only [va_up]
  by_cases h : z = a <;> simp [h]
section MW
variable {X : gX} {n k : Nat} {w : gH} {Q : Option Value → Nat → Nat → gH → Prop} {o : Nat} {nw rd ps im ik tx fa al be fo io : Nat → Int32} {de le pz tk ta va se it ln fz fb fm : Int32} {K N L : Nat}
theorem c6_bring {a b na nb i j : Nat} {f g : Nat → Int32} (ha : w a = .inl (.int, na, .inl f)) (hb : w b = .inl (.int, nb, .inl g)) (hab : a ≠ b) (hi : i + 59 ≤ na) (hj : j + 59 ≤ nb) (hna : na < 1000) (hnb : nb < 1000) : gEv (gT X) 119 0 [.ref a, .int (nI i), .ref b, .int (nI j), .null] [] n k w Q ↔ Q none n k (va_up w b (.inl (.int, nb, .inl (mrng j (j + 59) (fun z => f (i + (z - j))) g)))) := by
  have g1 : ∀ e : gE, va_up w b e a = w a := fun e => by simp [va_up, hab]
  have loop : ∀ (D d : Nat), d + D = 59 → (gEv (gT X) 119 3 [.ref a, .int (nI i), .ref b, .int (nI j), .int (nI d)] [] n k (va_up w b (.inl (.int, nb, .inl (mrng j (j + d) (fun z => f (i + (z - j))) g)))) Q ↔ Q none n k (va_up w b (.inl (.int, nb, .inl (mrng j (j + 59) (fun z => f (i + (z - j))) g))))) := by
    intro D
    induction D with
    | zero =>
      intro d hd
      have hc : 59 ≤ nI d := nI_le (a := 59) (by omega) (by omega)
      rw [eX6_bring_3]
      simp only [eX6_bring_0, eX6_bring_1, eX6_bring_1b, eX6_bring_1c, eX6_bring_1d, eX6_bring_5, eX6_bring_7, eX6_bring_10, eX6_bring_11, eX6_bring_12, eX6_bring_14, eX6_bring_15, eX6_bring_16, eX6_bring_17, eX6_bring_19, eX6_bring_20, eX6_bring_21, eX6_bring_22, eX6_bring_22b, eX6_bring_22c, eX6_bring_22d, eX6_bring_25, eX6_bring_28, Option.toList_some, Option.toList_none, List.cons_append, List.nil_append, gcat_nil, gcat_cons, cat_int, cat_ref, cat_null, cat_ret, cat_long, grc_ref, narZ0, narZ1, true_and, and_true, decide_true, Nat.reduceAdd, Nat.reduceLeDiff, if_true, if_false, eq_self, gfld_in, gobj_in, garr_in, garq_in, glen_in, gisO_in, ex_some, List.getElem?_cons_succ, List.getElem?_cons_zero, List.length_cons, List.length_nil, List.set_cons_succ, List.set_cons_zero, Nat.reduceLT, va_up_eq, va_up_nl, hc]
      rw [show d = 59 by omega]
    | succ D ih =>
      intro d hd
      have hc : ¬ 59 ≤ nI d := nI_ge (b := 59) (by omega) (by omega)
      have v1 : vp_in (nI (i + d)) na := vp_in_nI (by omega) (by omega)
      have v2 : vp_in (nI (j + d)) nb := vp_in_nI (by omega) (by omega)
      have e1 := mrng_up (lo := j) (k := j + d) (f := fun z => f (i + (z - j))) (g := g) (x := f (i + d)) (by omega) (by show _ = f (i + (j + d - j)); rw [Nat.add_sub_cancel_left])
      rw [eX6_bring_3]
      simp only [eX6_bring_0, eX6_bring_1, eX6_bring_1b, eX6_bring_1c, eX6_bring_1d, eX6_bring_5, eX6_bring_7, eX6_bring_10, eX6_bring_11, eX6_bring_12, eX6_bring_14, eX6_bring_15, eX6_bring_16, eX6_bring_17, eX6_bring_19, eX6_bring_20, eX6_bring_21, eX6_bring_22, eX6_bring_22b, eX6_bring_22c, eX6_bring_22d, eX6_bring_25, eX6_bring_28, Option.toList_some, Option.toList_none, List.cons_append, List.nil_append, gcat_nil, gcat_cons, cat_int, cat_ref, cat_null, cat_ret, cat_long, grc_ref, narZ0, narZ1, true_and, and_true, decide_true, Nat.reduceAdd, Nat.reduceLeDiff, if_true, if_false, eq_self, gfld_in, gobj_in, garr_in, garq_in, glen_in, gisO_in, ex_some, List.getElem?_cons_succ, List.getElem?_cons_zero, List.length_cons, List.length_nil, List.set_cons_succ, List.set_cons_zero, Nat.reduceLT, va_up_eq, va_up_nl, hc, g1, ha, nI_add, nI_1, v1, v2, nI_clamp (show i + d < 2 ^ 31 by omega), nI_clamp (show j + d < 2 ^ 31 by omega), va_up_up, e1]
      exact ih (d + 1) (by omega)
  simp only [eX6_bring_0, eX6_bring_1, eX6_bring_1b, eX6_bring_1c, eX6_bring_1d, eX6_bring_5, eX6_bring_7, eX6_bring_10, eX6_bring_11, eX6_bring_12, eX6_bring_14, eX6_bring_15, eX6_bring_16, eX6_bring_17, eX6_bring_19, eX6_bring_20, eX6_bring_21, eX6_bring_22, eX6_bring_22b, eX6_bring_22c, eX6_bring_22d, eX6_bring_25, eX6_bring_28, Option.toList_some, Option.toList_none, List.cons_append, List.nil_append, gcat_nil, gcat_cons, cat_int, cat_ref, cat_null, cat_ret, cat_long, grc_ref, narZ0, narZ1, true_and, and_true, decide_true, Nat.reduceAdd, Nat.reduceLeDiff, if_true, if_false, eq_self, gfld_in, gobj_in, garr_in, garq_in, glen_in, gisO_in, ex_some, List.getElem?_cons_succ, List.getElem?_cons_zero, List.length_cons, List.length_nil, List.set_cons_succ, List.set_cons_zero, Nat.reduceLT, va_up_eq, va_up_nl]
  have := loop 59 0 (by omega)
  rw [Nat.add_zero, mrng_nil] at this
  rw [show va_up w b (.inl (.int, nb, .inl g)) = w by funext z; simp only [va_up]; by_cases h : z = b <;> simp [h, hb]] at this
  exact this
/-- the past, with now behind it -/
def mnote (nw ps : Nat → Int32) (d : Nat) : Nat → Int32 := if d = 6 then mrng 295 354 (fun z => nw (0 + (z - 295))) (mrng 0 295 (fun z => ps (z + 59)) ps) else mrng (59 * d) (59 * d + 59) (fun z => nw (0 + (z - 59 * d))) ps
theorem c6_note {d : Nat} (hd : d ≤ 6) : gEv (gT X) 120 0 [.ref o, .null] [] n k (mW w o nw rd ps (nI d) im ik tx le pz tk ta va fa se it al ln fz fb be fo fm io) Q ↔ Q none n k (mW w o nw rd (mnote nw ps d) (nI (if d = 6 then 6 else d + 1)) im ik tx le pz tk ta va fa se it al ln fz fb be fo fm io) := by
  have tail : ∀ (d : Nat) (ps : Nat → Int32) (v1 : Value), d ≤ 5 → (gEv (gT X) 120 49 [.ref o, v1] [] n k (mW w o nw rd ps (nI d) im ik tx le pz tk ta va fa se it al ln fz fb be fo fm io) Q ↔ Q none n k (mW w o nw rd (mrng (59 * d) (59 * d + 59) (fun z => nw (0 + (z - 59 * d))) ps) (nI (d + 1)) im ik tx le pz tk ta va fa se it al ln fz fb be fo fm io)) := by
    intro d ps v1 hd
    have e1 : 59 * nI d = nI (59 * d) := by rw [show (59 : Int32) = nI 59 from rfl, pk_mul]
    have hb : ∀ {Q : Option Value → Nat → Nat → gH → Prop}, gEv (gT X) 119 0 [.ref (o + 1), .int 0, .ref (o + 3), .int (nI (59 * d)), .null] [] n k (mW w o nw rd ps (nI d) im ik tx le pz tk ta va fa se it al ln fz fb be fo fm io) Q ↔ Q none n k (va_up (mW w o nw rd ps (nI d) im ik tx le pz tk ta va fa se it al ln fz fb be fo fm io) (o + 3) (.inl (.int, 354, .inl (mrng (59 * d) (59 * d + 59) (fun z => nw (0 + (z - 59 * d))) ps)))) := c6_bring (i := 0) (j := 59 * d) mW_1 mW_3 (by omega) (by omega) (by omega) (by omega) (by omega)
    simp only [eX6_note_0, eX6_note_1, eX6_note_4, eX6_note_6, eX6_note_9, eX6_note_10, eX6_note_10b, eX6_note_10c, eX6_note_10d, eX6_note_11, eX6_note_12, eX6_note_15, eX6_note_18, eX6_note_19, eX6_note_22, eX6_note_23, eX6_note_24, eX6_note_27, eX6_note_28, eX6_note_30, eX6_note_31, eX6_note_32, eX6_note_33, eX6_note_33b, eX6_note_33c, eX6_note_33d, eX6_note_36, eX6_note_39, eX6_note_40, eX6_note_40b, eX6_note_41, eX6_note_44, eX6_note_45, eX6_note_46, eX6_note_49, eX6_note_50, eX6_note_53, eX6_note_54, eX6_note_55, eX6_note_58, eX6_note_60, eX6_note_61, eX6_note_64, eX6_note_65, eX6_note_68, eX6_note_69, eX6_note_69b, eX6_note_70, eX6_note_73, eX6_note_74, eX6_note_75, eX6_note_78, Option.toList_some, Option.toList_none, List.cons_append, List.nil_append, gcat_nil, gcat_cons, cat_int, cat_ref, cat_null, cat_ret, cat_long, grc_ref, narZ0, narZ1, true_and, and_true, decide_true, Nat.reduceAdd, Nat.reduceLeDiff, if_true, if_false, eq_self, gfld_in, gobj_in, garr_in, garq_in, glen_in, gisO_in, ex_some, List.getElem?_cons_succ, List.getElem?_cons_zero, List.length_cons, List.length_nil, List.set_cons_succ, List.set_cons_zero, Nat.reduceLT, va_up_eq, va_up_nl, mW_0, e1, hb, mW_p3, mW_p0, nI_1]
  by_cases h6 : d = 6
  · subst h6
    have h66 : nI 6 = 6 := rfl
    have loop : ∀ (D j : Nat), j + D = 295 → (gEv (gT X) 120 11 [.ref o, .int (nI j)] [] n k (mW w o nw rd (mrng 0 j (fun z => ps (z + 59)) ps) 6 im ik tx le pz tk ta va fa se it al ln fz fb be fo fm io) Q ↔ Q none n k (mW w o nw rd (mnote nw ps 6) (nI 6) im ik tx le pz tk ta va fa se it al ln fz fb be fo fm io)) := by
      intro D
      induction D with
      | zero =>
        intro j hj
        have hc : 295 ≤ nI j := nI_le (a := 295) (by omega) (by omega)
        have e5 : (6 : Int32) - 1 = nI 5 := by decide
        rw [eX6_note_11]
        simp only [eX6_note_12, eX6_note_15, eX6_note_39, eX6_note_40, eX6_note_40b, eX6_note_41, eX6_note_44, eX6_note_45, eX6_note_46, Option.toList_some, Option.toList_none, List.cons_append, List.nil_append, gcat_nil, gcat_cons, cat_int, cat_ref, cat_null, cat_ret, cat_long, grc_ref, narZ0, narZ1, true_and, and_true, decide_true, Nat.reduceAdd, Nat.reduceLeDiff, if_true, if_false, eq_self, gfld_in, gobj_in, garr_in, garq_in, glen_in, gisO_in, ex_some, List.getElem?_cons_succ, List.getElem?_cons_zero, List.length_cons, List.length_nil, List.set_cons_succ, List.set_cons_zero, Nat.reduceLT, va_up_eq, va_up_nl, hc, mW_0, e5, mW_p0]
        rw [tail 5 _ _ (by omega), show j = 295 by omega]
        rfl
      | succ D ih =>
        intro j hj
        have hc : ¬ 295 ≤ nI j := nI_ge (b := 295) (by omega) (by omega)
        have v1 : vp_in (nI (j + 59)) 354 := vp_in_nI (by omega) (by omega)
        have v2 : vp_in (nI j) 354 := vp_in_nI (by omega) (by omega)
        have e59 : nI j + 59 = nI (j + 59) := by rw [show (59 : Int32) = nI 59 from rfl, nI_add]
        have e0 : mrng 0 j (fun z => ps (z + 59)) ps (j + 59) = ps (j + 59) := mrng_out (by omega)
        have e1 := mrng_up (lo := 0) (k := j) (f := fun z => ps (z + 59)) (g := ps) (x := ps (j + 59)) (by omega) rfl
        rw [eX6_note_11]
        simp only [eX6_note_12, eX6_note_15, eX6_note_18, eX6_note_19, eX6_note_22, eX6_note_23, eX6_note_24, eX6_note_27, eX6_note_28, eX6_note_30, eX6_note_31, eX6_note_32, eX6_note_33, eX6_note_33b, eX6_note_33c, eX6_note_33d, eX6_note_36, Option.toList_some, Option.toList_none, List.cons_append, List.nil_append, gcat_nil, gcat_cons, cat_int, cat_ref, cat_null, cat_ret, cat_long, grc_ref, narZ0, narZ1, true_and, and_true, decide_true, Nat.reduceAdd, Nat.reduceLeDiff, if_true, if_false, eq_self, gfld_in, gobj_in, garr_in, garq_in, glen_in, gisO_in, ex_some, List.getElem?_cons_succ, List.getElem?_cons_zero, List.length_cons, List.length_nil, List.set_cons_succ, List.set_cons_zero, Nat.reduceLT, va_up_eq, va_up_nl, hc, mW_0, mW_3, e59, v1, v2, nI_clamp (show j + 59 < 2 ^ 31 by omega), nI_clamp (show j < 2 ^ 31 by omega), e0, e1, mW_p3, nI_1]
        exact ih (j + 1) (by omega)
    have := loop 295 0 (by omega)
    rw [mrng_nil] at this
    simp only [eX6_note_0, eX6_note_1, eX6_note_4, eX6_note_6, eX6_note_9, eX6_note_10, eX6_note_10b, eX6_note_10c, eX6_note_10d, Option.toList_some, Option.toList_none, List.cons_append, List.nil_append, gcat_nil, gcat_cons, cat_int, cat_ref, cat_null, cat_ret, cat_long, grc_ref, narZ0, narZ1, true_and, and_true, decide_true, Nat.reduceAdd, Nat.reduceLeDiff, if_true, if_false, eq_self, gfld_in, gobj_in, garr_in, garq_in, glen_in, gisO_in, ex_some, List.getElem?_cons_succ, List.getElem?_cons_zero, List.length_cons, List.length_nil, List.set_cons_succ, List.set_cons_zero, Nat.reduceLT, va_up_eq, va_up_nl, mW_0, h66, not_true_eq_false]
    simp only [h66] at this
    exact this
  · have hc : ¬ nI d = 6 := fun z => h6 (by have := (nI_eq (a := d) (b := 6) (by omega) (by omega)).mp z; exact this)
    simp only [eX6_note_0, eX6_note_1, eX6_note_4, eX6_note_6, Option.toList_some, Option.toList_none, List.cons_append, List.nil_append, gcat_nil, gcat_cons, cat_int, cat_ref, cat_null, cat_ret, cat_long, grc_ref, narZ0, narZ1, true_and, and_true, decide_true, Nat.reduceAdd, Nat.reduceLeDiff, if_true, if_false, eq_self, gfld_in, gobj_in, garr_in, garq_in, glen_in, gisO_in, ex_some, List.getElem?_cons_succ, List.getElem?_cons_zero, List.length_cons, List.length_nil, List.set_cons_succ, List.set_cons_zero, Nat.reduceLT, va_up_eq, va_up_nl, mW_0, hc, not_false_eq_true]
    rw [tail d ps _ (by omega), if_neg h6]
    unfold mnote
    rw [if_neg h6]
def mbegin (rd : Nat → Int32) : Nat → Int32 := upd (upd (mrng 0 59 (fun _ => 0) rd) 50 20) 58 (-9)
theorem c6_beginRead : gEv (gT X) 121 0 [.ref o, .null] [] n k (mW w o nw rd ps de im ik tx le pz tk ta va fa se it al ln fz fb be fo fm io) Q ↔ Q none n k (mW w o nw (mbegin rd) ps de im ik tx le pz tk ta va fa se it al ln fz fb be fo fm io) := by
  have loop : ∀ (D j : Nat), j + D = 59 → (gEv (gT X) 121 2 [.ref o, .int (nI j)] [] n k (mW w o nw (mrng 0 j (fun _ => 0) rd) ps de im ik tx le pz tk ta va fa se it al ln fz fb be fo fm io) Q ↔ Q none n k (mW w o nw (mbegin rd) ps de im ik tx le pz tk ta va fa se it al ln fz fb be fo fm io)) := by
    intro D
    induction D with
    | zero =>
      intro j hj
      have hc : 59 ≤ nI j := nI_le (a := 59) (by omega) (by omega)
      have v1 : vp_in 50 59 := vp_in_nI (n := 50) (by omega) (by omega)
      have v2 : vp_in 58 59 := vp_in_nI (n := 58) (by omega) (by omega)
      have y1 : (50 : Int32).toNatClampNeg = 50 := by decide
      have y2 : (58 : Int32).toNatClampNeg = 58 := by decide
      rw [eX6_beginRead_2]
      simp only [eX6_beginRead_0, eX6_beginRead_1, eX6_beginRead_1b, eX6_beginRead_1c, eX6_beginRead_1d, eX6_beginRead_3, eX6_beginRead_5, eX6_beginRead_8, eX6_beginRead_9, eX6_beginRead_12, eX6_beginRead_13, eX6_beginRead_14, eX6_beginRead_15, eX6_beginRead_15b, eX6_beginRead_15c, eX6_beginRead_15d, eX6_beginRead_18, eX6_beginRead_21, eX6_beginRead_22, eX6_beginRead_25, eX6_beginRead_27, eX6_beginRead_29, eX6_beginRead_30, eX6_beginRead_31, eX6_beginRead_34, eX6_beginRead_36, eX6_beginRead_38, eX6_beginRead_39, Option.toList_some, Option.toList_none, List.cons_append, List.nil_append, gcat_nil, gcat_cons, cat_int, cat_ref, cat_null, cat_ret, cat_long, grc_ref, narZ0, narZ1, true_and, and_true, decide_true, Nat.reduceAdd, Nat.reduceLeDiff, if_true, if_false, eq_self, gfld_in, gobj_in, garr_in, garq_in, glen_in, gisO_in, ex_some, List.getElem?_cons_succ, List.getElem?_cons_zero, List.length_cons, List.length_nil, List.set_cons_succ, List.set_cons_zero, Nat.reduceLT, va_up_eq, va_up_nl, hc, mW_0, mW_2, v1, v2, y1, y2, mW_p2]
      rw [show j = 59 by omega]
      rfl
    | succ D ih =>
      intro j hj
      have hc : ¬ 59 ≤ nI j := nI_ge (b := 59) (by omega) (by omega)
      have v1 : vp_in (nI j) 59 := vp_in_nI (by omega) (by omega)
      have e1 := mrng_up (lo := 0) (k := j) (f := fun _ => (0 : Int32)) (g := rd) (x := 0) (by omega) rfl
      rw [eX6_beginRead_2]
      simp only [eX6_beginRead_0, eX6_beginRead_1, eX6_beginRead_1b, eX6_beginRead_1c, eX6_beginRead_1d, eX6_beginRead_3, eX6_beginRead_5, eX6_beginRead_8, eX6_beginRead_9, eX6_beginRead_12, eX6_beginRead_13, eX6_beginRead_14, eX6_beginRead_15, eX6_beginRead_15b, eX6_beginRead_15c, eX6_beginRead_15d, eX6_beginRead_18, eX6_beginRead_21, eX6_beginRead_22, eX6_beginRead_25, eX6_beginRead_27, eX6_beginRead_29, eX6_beginRead_30, eX6_beginRead_31, eX6_beginRead_34, eX6_beginRead_36, eX6_beginRead_38, eX6_beginRead_39, Option.toList_some, Option.toList_none, List.cons_append, List.nil_append, gcat_nil, gcat_cons, cat_int, cat_ref, cat_null, cat_ret, cat_long, grc_ref, narZ0, narZ1, true_and, and_true, decide_true, Nat.reduceAdd, Nat.reduceLeDiff, if_true, if_false, eq_self, gfld_in, gobj_in, garr_in, garq_in, glen_in, gisO_in, ex_some, List.getElem?_cons_succ, List.getElem?_cons_zero, List.length_cons, List.length_nil, List.set_cons_succ, List.set_cons_zero, Nat.reduceLT, va_up_eq, va_up_nl, hc, mW_0, mW_2, v1, nI_clamp (show j < 2 ^ 31 by omega), e1, mW_p2, nI_1]
      exact ih (j + 1) (by omega)
  have := loop 59 0 (by omega)
  rw [mrng_nil] at this
  simp only [eX6_beginRead_0, eX6_beginRead_1, eX6_beginRead_1b, eX6_beginRead_1c, eX6_beginRead_1d, eX6_beginRead_3, eX6_beginRead_5, eX6_beginRead_8, eX6_beginRead_9, eX6_beginRead_12, eX6_beginRead_13, eX6_beginRead_14, eX6_beginRead_15, eX6_beginRead_15b, eX6_beginRead_15c, eX6_beginRead_15d, eX6_beginRead_18, eX6_beginRead_21, eX6_beginRead_22, eX6_beginRead_25, eX6_beginRead_27, eX6_beginRead_29, eX6_beginRead_30, eX6_beginRead_31, eX6_beginRead_34, eX6_beginRead_36, eX6_beginRead_38, eX6_beginRead_39, Option.toList_some, Option.toList_none, List.cons_append, List.nil_append, gcat_nil, gcat_cons, cat_int, cat_ref, cat_null, cat_ret, cat_long, grc_ref, narZ0, narZ1, true_and, and_true, decide_true, Nat.reduceAdd, Nat.reduceLeDiff, if_true, if_false, eq_self, gfld_in, gobj_in, garr_in, garq_in, glen_in, gisO_in, ex_some, List.getElem?_cons_succ, List.getElem?_cons_zero, List.length_cons, List.length_nil, List.set_cons_succ, List.set_cons_zero, Nat.reduceLT, va_up_eq, va_up_nl]
  exact this
theorem c6_asTold (hN : N ≤ 6) (h31 : nw 31 = nI N) : gEv (gT X) 140 0 [.ref o, .null] [] n k (mW w o nw rd ps de im ik tx le pz tk ta va fa se it al ln fz fb be fo fm io) Q ↔ Q none n k (mW w o nw rd ps de im ik tx le pz tk ta va fa se it (mrng 0 N nI al) (nI N) (-9) 0 be fo fm io) := by
  have v31 : vp_in 31 59 := vp_in_nI (n := 31) (by omega) (by omega)
  have y31 : (31 : Int32).toNatClampNeg = 31 := by decide
  have loop : ∀ (D j : Nat), j + D = N → (gEv (gT X) 140 13 [.ref o, .int (nI j)] [] n k (mW w o nw rd ps de im ik tx le pz tk ta va fa se it (mrng 0 j nI al) (nI N) fz fb be fo fm io) Q ↔ Q none n k (mW w o nw rd ps de im ik tx le pz tk ta va fa se it (mrng 0 N nI al) (nI N) (-9) 0 be fo fm io)) := by
    intro D
    induction D with
    | zero =>
      intro j hj
      have hc : nI N ≤ nI j := nI_le (by omega) (by omega)
      rw [eX6_asTold_13]
      simp only [eX6_asTold_0, eX6_asTold_1, eX6_asTold_2, eX6_asTold_5, eX6_asTold_7, eX6_asTold_8, eX6_asTold_11, eX6_asTold_12, eX6_asTold_12b, eX6_asTold_12c, eX6_asTold_12d, eX6_asTold_14, eX6_asTold_15, eX6_asTold_18, eX6_asTold_21, eX6_asTold_22, eX6_asTold_25, eX6_asTold_26, eX6_asTold_27, eX6_asTold_28, eX6_asTold_28b, eX6_asTold_28c, eX6_asTold_28d, eX6_asTold_31, eX6_asTold_34, eX6_asTold_35, eX6_asTold_37, eX6_asTold_40, eX6_asTold_41, eX6_asTold_42, eX6_asTold_45, Option.toList_some, Option.toList_none, List.cons_append, List.nil_append, gcat_nil, gcat_cons, cat_int, cat_ref, cat_null, cat_ret, cat_long, grc_ref, narZ0, narZ1, true_and, and_true, decide_true, Nat.reduceAdd, Nat.reduceLeDiff, if_true, if_false, eq_self, gfld_in, gobj_in, garr_in, garq_in, glen_in, gisO_in, ex_some, List.getElem?_cons_succ, List.getElem?_cons_zero, List.length_cons, List.length_nil, List.set_cons_succ, List.set_cons_zero, Nat.reduceLT, va_up_eq, va_up_nl, mW_0, hc, mW_p0]
      rw [show j = N by omega]
    | succ D ih =>
      intro j hj
      have hc : ¬ nI N ≤ nI j := nI_ge (by omega) (by omega)
      have v1 : vp_in (nI j) 6 := vp_in_nI (by omega) (by omega)
      have e1 := mrng_up (lo := 0) (k := j) (f := nI) (g := al) (x := nI j) (by omega) rfl
      rw [eX6_asTold_13]
      simp only [eX6_asTold_0, eX6_asTold_1, eX6_asTold_2, eX6_asTold_5, eX6_asTold_7, eX6_asTold_8, eX6_asTold_11, eX6_asTold_12, eX6_asTold_12b, eX6_asTold_12c, eX6_asTold_12d, eX6_asTold_14, eX6_asTold_15, eX6_asTold_18, eX6_asTold_21, eX6_asTold_22, eX6_asTold_25, eX6_asTold_26, eX6_asTold_27, eX6_asTold_28, eX6_asTold_28b, eX6_asTold_28c, eX6_asTold_28d, eX6_asTold_31, eX6_asTold_34, eX6_asTold_35, eX6_asTold_37, eX6_asTold_40, eX6_asTold_41, eX6_asTold_42, eX6_asTold_45, Option.toList_some, Option.toList_none, List.cons_append, List.nil_append, gcat_nil, gcat_cons, cat_int, cat_ref, cat_null, cat_ret, cat_long, grc_ref, narZ0, narZ1, true_and, and_true, decide_true, Nat.reduceAdd, Nat.reduceLeDiff, if_true, if_false, eq_self, gfld_in, gobj_in, garr_in, garq_in, glen_in, gisO_in, ex_some, List.getElem?_cons_succ, List.getElem?_cons_zero, List.length_cons, List.length_nil, List.set_cons_succ, List.set_cons_zero, Nat.reduceLT, va_up_eq, va_up_nl, mW_0, mW_8, hc, v1, nI_clamp (show j < 2 ^ 31 by omega), e1, mW_p8, nI_1]
      exact ih (j + 1) (by omega)
  have := loop N 0 (by omega)
  rw [mrng_nil] at this
  simp only [eX6_asTold_0, eX6_asTold_1, eX6_asTold_2, eX6_asTold_5, eX6_asTold_7, eX6_asTold_8, eX6_asTold_11, eX6_asTold_12, eX6_asTold_12b, eX6_asTold_12c, eX6_asTold_12d, eX6_asTold_14, eX6_asTold_15, eX6_asTold_18, eX6_asTold_21, eX6_asTold_22, eX6_asTold_25, eX6_asTold_26, eX6_asTold_27, eX6_asTold_28, eX6_asTold_28b, eX6_asTold_28c, eX6_asTold_28d, eX6_asTold_31, eX6_asTold_34, eX6_asTold_35, eX6_asTold_37, eX6_asTold_40, eX6_asTold_41, eX6_asTold_42, eX6_asTold_45, Option.toList_some, Option.toList_none, List.cons_append, List.nil_append, gcat_nil, gcat_cons, cat_int, cat_ref, cat_null, cat_ret, cat_long, grc_ref, narZ0, narZ1, true_and, and_true, decide_true, Nat.reduceAdd, Nat.reduceLeDiff, if_true, if_false, eq_self, gfld_in, gobj_in, garr_in, garq_in, glen_in, gisO_in, ex_some, List.getElem?_cons_succ, List.getElem?_cons_zero, List.length_cons, List.length_nil, List.set_cons_succ, List.set_cons_zero, Nat.reduceLT, va_up_eq, va_up_nl, mW_0, mW_1, v31, y31, h31, mW_p0]
  exact this
def mempty (nw : Nat → Int32) : Nat → Int32 := upd (mrng 51 58 (fun _ => 0) nw) 58 (-9)
theorem c6_emptyAll : gEv (gT X) 154 0 [.ref o, .null] [] n k (mW w o nw rd ps de im ik tx le pz tk ta va fa se it al ln fz fb be fo fm io) Q ↔ Q none n k (mW w o (mempty nw) rd ps de im ik tx le pz tk ta va fa se it al ln fz fb be fo fm io) := by
  have loop : ∀ (D j : Nat), j + D = 58 → 51 ≤ j → (gEv (gT X) 154 3 [.ref o, .int (nI j)] [] n k (mW w o (mrng 51 j (fun _ => 0) nw) rd ps de im ik tx le pz tk ta va fa se it al ln fz fb be fo fm io) Q ↔ Q none n k (mW w o (mempty nw) rd ps de im ik tx le pz tk ta va fa se it al ln fz fb be fo fm io)) := by
    intro D
    induction D with
    | zero =>
      intro j hj h5
      have hc : 58 ≤ nI j := nI_le (a := 58) (by omega) (by omega)
      have v2 : vp_in 58 59 := vp_in_nI (n := 58) (by omega) (by omega)
      have y2 : (58 : Int32).toNatClampNeg = 58 := by decide
      rw [eX6_emptyAll_3]
      simp only [eX6_emptyAll_0, eX6_emptyAll_2, eX6_emptyAll_2b, eX6_emptyAll_2c, eX6_emptyAll_2d, eX6_emptyAll_4, eX6_emptyAll_6, eX6_emptyAll_9, eX6_emptyAll_10, eX6_emptyAll_13, eX6_emptyAll_14, eX6_emptyAll_15, eX6_emptyAll_16, eX6_emptyAll_16b, eX6_emptyAll_16c, eX6_emptyAll_16d, eX6_emptyAll_19, eX6_emptyAll_22, eX6_emptyAll_23, eX6_emptyAll_26, eX6_emptyAll_28, eX6_emptyAll_30, eX6_emptyAll_31, Option.toList_some, Option.toList_none, List.cons_append, List.nil_append, gcat_nil, gcat_cons, cat_int, cat_ref, cat_null, cat_ret, cat_long, grc_ref, narZ0, narZ1, true_and, and_true, decide_true, Nat.reduceAdd, Nat.reduceLeDiff, if_true, if_false, eq_self, gfld_in, gobj_in, garr_in, garq_in, glen_in, gisO_in, ex_some, List.getElem?_cons_succ, List.getElem?_cons_zero, List.length_cons, List.length_nil, List.set_cons_succ, List.set_cons_zero, Nat.reduceLT, va_up_eq, va_up_nl, hc, mW_0, mW_1, v2, y2, mW_p1]
      rw [show j = 58 by omega]
      rfl
    | succ D ih =>
      intro j hj h5
      have hc : ¬ 58 ≤ nI j := nI_ge (b := 58) (by omega) (by omega)
      have v1 : vp_in (nI j) 59 := vp_in_nI (by omega) (by omega)
      have e1 := mrng_up (lo := 51) (k := j) (f := fun _ => (0 : Int32)) (g := nw) (x := 0) h5 rfl
      rw [eX6_emptyAll_3]
      simp only [eX6_emptyAll_0, eX6_emptyAll_2, eX6_emptyAll_2b, eX6_emptyAll_2c, eX6_emptyAll_2d, eX6_emptyAll_4, eX6_emptyAll_6, eX6_emptyAll_9, eX6_emptyAll_10, eX6_emptyAll_13, eX6_emptyAll_14, eX6_emptyAll_15, eX6_emptyAll_16, eX6_emptyAll_16b, eX6_emptyAll_16c, eX6_emptyAll_16d, eX6_emptyAll_19, eX6_emptyAll_22, eX6_emptyAll_23, eX6_emptyAll_26, eX6_emptyAll_28, eX6_emptyAll_30, eX6_emptyAll_31, Option.toList_some, Option.toList_none, List.cons_append, List.nil_append, gcat_nil, gcat_cons, cat_int, cat_ref, cat_null, cat_ret, cat_long, grc_ref, narZ0, narZ1, true_and, and_true, decide_true, Nat.reduceAdd, Nat.reduceLeDiff, if_true, if_false, eq_self, gfld_in, gobj_in, garr_in, garq_in, glen_in, gisO_in, ex_some, List.getElem?_cons_succ, List.getElem?_cons_zero, List.length_cons, List.length_nil, List.set_cons_succ, List.set_cons_zero, Nat.reduceLT, va_up_eq, va_up_nl, hc, mW_0, mW_1, v1, nI_clamp (show j < 2 ^ 31 by omega), e1, mW_p1, nI_1]
      exact ih (j + 1) (by omega) (by omega)
  have := loop 7 51 (by omega) (by omega)
  rw [mrng_nil] at this
  simp only [eX6_emptyAll_0, eX6_emptyAll_2, eX6_emptyAll_2b, eX6_emptyAll_2c, eX6_emptyAll_2d, eX6_emptyAll_4, eX6_emptyAll_6, eX6_emptyAll_9, eX6_emptyAll_10, eX6_emptyAll_13, eX6_emptyAll_14, eX6_emptyAll_15, eX6_emptyAll_16, eX6_emptyAll_16b, eX6_emptyAll_16c, eX6_emptyAll_16d, eX6_emptyAll_19, eX6_emptyAll_22, eX6_emptyAll_23, eX6_emptyAll_26, eX6_emptyAll_28, eX6_emptyAll_30, eX6_emptyAll_31, Option.toList_some, Option.toList_none, List.cons_append, List.nil_append, gcat_nil, gcat_cons, cat_int, cat_ref, cat_null, cat_ret, cat_long, grc_ref, narZ0, narZ1, true_and, and_true, decide_true, Nat.reduceAdd, Nat.reduceLeDiff, if_true, if_false, eq_self, gfld_in, gobj_in, garr_in, garq_in, glen_in, gisO_in, ex_some, List.getElem?_cons_succ, List.getElem?_cons_zero, List.length_cons, List.length_nil, List.set_cons_succ, List.set_cons_zero, Nat.reduceLT, va_up_eq, va_up_nl]
  exact this
theorem c6_coins : gEv (gT X) 183 0 [.ref o, .null, .null] [] n k (mW w o nw rd ps de im ik tx le pz tk ta va fa se it al ln fz fb be fo fm io) Q ↔ Q (some (.int (gfor (fun i a => a + nw (51 + i)) 0 7 0))) n k (mW w o nw rd ps de im ik tx le pz tk ta va fa se it al ln fz fb be fo fm io) := by
  have loop : ∀ (D j : Nat) (a : Int32), j + D = 7 → (gEv (gT X) 183 5 [.ref o, .int a, .int (nI (51 + j))] [] n k (mW w o nw rd ps de im ik tx le pz tk ta va fa se it al ln fz fb be fo fm io) Q ↔ Q (some (.int (gfor (fun i a => a + nw (51 + i)) j D a))) n k (mW w o nw rd ps de im ik tx le pz tk ta va fa se it al ln fz fb be fo fm io)) := by
    intro D
    induction D with
    | zero =>
      intro j a hj
      have hc : 58 ≤ nI (51 + j) := nI_le (a := 58) (by omega) (by omega)
      rw [eX6_coins_5]
      simp only [eX6_coins_0, eX6_coins_1, eX6_coins_1b, eX6_coins_1c, eX6_coins_1d, eX6_coins_2, eX6_coins_4, eX6_coins_4b, eX6_coins_4c, eX6_coins_4d, eX6_coins_6, eX6_coins_8, eX6_coins_11, eX6_coins_12, eX6_coins_13, eX6_coins_16, eX6_coins_17, eX6_coins_18, eX6_coins_19, eX6_coins_19b, eX6_coins_19c, eX6_coins_19d, eX6_coins_20, eX6_coins_20b, eX6_coins_20c, eX6_coins_20d, eX6_coins_23, eX6_coins_26, eX6_coins_27, Option.toList_some, Option.toList_none, List.cons_append, List.nil_append, gcat_nil, gcat_cons, cat_int, cat_ref, cat_null, cat_ret, cat_long, grc_ref, narZ0, narZ1, true_and, and_true, decide_true, Nat.reduceAdd, Nat.reduceLeDiff, if_true, if_false, eq_self, gfld_in, gobj_in, garr_in, garq_in, glen_in, gisO_in, ex_some, List.getElem?_cons_succ, List.getElem?_cons_zero, List.length_cons, List.length_nil, List.set_cons_succ, List.set_cons_zero, Nat.reduceLT, va_up_eq, va_up_nl, hc]
      rfl
    | succ D ih =>
      intro j a hj
      have hc : ¬ 58 ≤ nI (51 + j) := nI_ge (b := 58) (by omega) (by omega)
      have v1 : vp_in (nI (51 + j)) 59 := vp_in_nI (by omega) (by omega)
      rw [eX6_coins_5]
      simp only [eX6_coins_0, eX6_coins_1, eX6_coins_1b, eX6_coins_1c, eX6_coins_1d, eX6_coins_2, eX6_coins_4, eX6_coins_4b, eX6_coins_4c, eX6_coins_4d, eX6_coins_6, eX6_coins_8, eX6_coins_11, eX6_coins_12, eX6_coins_13, eX6_coins_16, eX6_coins_17, eX6_coins_18, eX6_coins_19, eX6_coins_19b, eX6_coins_19c, eX6_coins_19d, eX6_coins_20, eX6_coins_20b, eX6_coins_20c, eX6_coins_20d, eX6_coins_23, eX6_coins_26, eX6_coins_27, Option.toList_some, Option.toList_none, List.cons_append, List.nil_append, gcat_nil, gcat_cons, cat_int, cat_ref, cat_null, cat_ret, cat_long, grc_ref, narZ0, narZ1, true_and, and_true, decide_true, Nat.reduceAdd, Nat.reduceLeDiff, if_true, if_false, eq_self, gfld_in, gobj_in, garr_in, garq_in, glen_in, gisO_in, ex_some, List.getElem?_cons_succ, List.getElem?_cons_zero, List.length_cons, List.length_nil, List.set_cons_succ, List.set_cons_zero, Nat.reduceLT, va_up_eq, va_up_nl, hc, mW_0, mW_1, v1, nI_clamp (show 51 + j < 2 ^ 31 by omega), nI_1]
      exact ih (j + 1) _ (by omega)
  simp only [eX6_coins_0, eX6_coins_1, eX6_coins_1b, eX6_coins_1c, eX6_coins_1d, eX6_coins_2, eX6_coins_4, eX6_coins_4b, eX6_coins_4c, eX6_coins_4d, eX6_coins_6, eX6_coins_8, eX6_coins_11, eX6_coins_12, eX6_coins_13, eX6_coins_16, eX6_coins_17, eX6_coins_18, eX6_coins_19, eX6_coins_19b, eX6_coins_19c, eX6_coins_19d, eX6_coins_20, eX6_coins_20b, eX6_coins_20c, eX6_coins_20d, eX6_coins_23, eX6_coins_26, eX6_coins_27, Option.toList_some, Option.toList_none, List.cons_append, List.nil_append, gcat_nil, gcat_cons, cat_int, cat_ref, cat_null, cat_ret, cat_long, grc_ref, narZ0, narZ1, true_and, and_true, decide_true, Nat.reduceAdd, Nat.reduceLeDiff, if_true, if_false, eq_self, gfld_in, gobj_in, garr_in, garq_in, glen_in, gisO_in, ex_some, List.getElem?_cons_succ, List.getElem?_cons_zero, List.length_cons, List.length_nil, List.set_cons_succ, List.set_cons_zero, Nat.reduceLT, va_up_eq, va_up_nl]
  exact loop 7 0 0 (by omega)
theorem c6_isKind (h0 : nw 0 = nI K) (hK : K ≤ 6) {a : Int32} : gEv (gT X) 136 0 [.ref o, .int a] [] n k (mW w o nw rd ps de im ik tx le pz tk ta va fa se it al ln fz fb be fo fm io) Q ↔ Q (some (.int (gb (0 ≤ a ∧ a < nI K)))) n k (mW w o nw rd ps de im ik tx le pz tk ta va fa se it al ln fz fb be fo fm io) := by
  have v0 : vp_in 0 59 := vp_in_nI (n := 0) (by omega) (by omega)
  have y0 : (0 : Int32).toNatClampNeg = 0 := by decide
  have hb : ∀ {p : Prop} [Decidable p], (narrow .boolean (.int (gb p)) = .int (gb p)) = True := by
    intro p _
    by_cases hp : p
    · rw [gb_t hp]; exact narZ1
    · rw [gb_f hp]; exact narZ0
  simp only [eX6_isKind_0, eX6_isKind_1, eX6_isKind_2, eX6_isKind_3, eX6_isKind_6, eX6_isKind_7, eX6_isKind_8, eX6_isKind_9, eX6_isKind_10, eX6_isKind_13, Option.toList_some, Option.toList_none, List.cons_append, List.nil_append, gcat_nil, gcat_cons, cat_int, cat_ref, cat_null, cat_ret, cat_long, grc_ref, narZ0, narZ1, true_and, and_true, decide_true, Nat.reduceAdd, Nat.reduceLeDiff, if_true, if_false, eq_self, gfld_in, gobj_in, garr_in, garq_in, glen_in, gisO_in, ex_some, List.getElem?_cons_succ, List.getElem?_cons_zero, List.length_cons, List.length_nil, List.set_cons_succ, List.set_cons_zero, Nat.reduceLT, va_up_eq, va_up_nl, mW_0, mW_1, v0, y0, h0, c6_in, hb]
  have e : (0 ≤ a ∧ a ≤ nI K - 1) ↔ (0 ≤ a ∧ a < nI K) := by
    have hk : (nI K - 1).toInt = (K : Int) - 1 := by
      have := pk_sub_toInt (a := K) (b := 1) (by omega) (by omega)
      show (nI K - nI 1).toInt = (K : Int) - ((1 : Nat) : Int)
      exact this
    have hk2 : (nI K).toInt = (K : Int) := nI_toInt (by omega)
    constructor
    · rintro ⟨h1, h2⟩
      refine ⟨h1, Int32.lt_iff_toInt_lt.mpr ?_⟩
      have := Int32.le_iff_toInt_le.mp h2
      omega
    · rintro ⟨h1, h2⟩
      refine ⟨h1, Int32.le_iff_toInt_le.mpr ?_⟩
      have := Int32.lt_iff_toInt_lt.mp h2
      omega
  rw [gb_eq e]
theorem c6_isTest (h31 : nw 31 = nI N) (hN : N ≤ 6) {a : Int32} : gEv (gT X) 137 0 [.ref o, .int a] [] n k (mW w o nw rd ps de im ik tx le pz tk ta va fa se it al ln fz fb be fo fm io) Q ↔ Q (some (.int (gb (0 ≤ a ∧ a < nI N)))) n k (mW w o nw rd ps de im ik tx le pz tk ta va fa se it al ln fz fb be fo fm io) := by
  have v0 : vp_in 31 59 := vp_in_nI (n := 31) (by omega) (by omega)
  have y0 : (31 : Int32).toNatClampNeg = 31 := by decide
  have hb : ∀ {p : Prop} [Decidable p], (narrow .boolean (.int (gb p)) = .int (gb p)) = True := by
    intro p _
    by_cases hp : p
    · rw [gb_t hp]; exact narZ1
    · rw [gb_f hp]; exact narZ0
  simp only [eX6_isTest_0, eX6_isTest_1, eX6_isTest_2, eX6_isTest_3, eX6_isTest_6, eX6_isTest_8, eX6_isTest_9, eX6_isTest_10, eX6_isTest_11, eX6_isTest_14, Option.toList_some, Option.toList_none, List.cons_append, List.nil_append, gcat_nil, gcat_cons, cat_int, cat_ref, cat_null, cat_ret, cat_long, grc_ref, narZ0, narZ1, true_and, and_true, decide_true, Nat.reduceAdd, Nat.reduceLeDiff, if_true, if_false, eq_self, gfld_in, gobj_in, garr_in, garq_in, glen_in, gisO_in, ex_some, List.getElem?_cons_succ, List.getElem?_cons_zero, List.length_cons, List.length_nil, List.set_cons_succ, List.set_cons_zero, Nat.reduceLT, va_up_eq, va_up_nl, mW_0, mW_1, v0, y0, h31, c6_in, hb]
  have e : (0 ≤ a ∧ a ≤ nI N - 1) ↔ (0 ≤ a ∧ a < nI N) := by
    have hk : (nI N - 1).toInt = (N : Int) - 1 := by
      have := pk_sub_toInt (a := N) (b := 1) (by omega) (by omega)
      show (nI N - nI 1).toInt = (N : Int) - ((1 : Nat) : Int)
      exact this
    have hk2 : (nI N).toInt = (N : Int) := nI_toInt (by omega)
    constructor
    · rintro ⟨h1, h2⟩
      refine ⟨h1, Int32.lt_iff_toInt_lt.mpr ?_⟩
      have := Int32.le_iff_toInt_le.mp h2
      omega
    · rintro ⟨h1, h2⟩
      refine ⟨h1, Int32.le_iff_toInt_le.mpr ?_⟩
      have := Int32.lt_iff_toInt_lt.mp h2
      omega
  rw [gb_eq e]
theorem c6_isBin (h31 : nw 31 = nI N) {a : Int32} : gEv (gT X) 152 0 [.ref o, .int a] [] n k (mW w o nw rd ps de im ik tx le pz tk ta va fa se it al ln fz fb be fo fm io) Q ↔ Q (some (.int (gb (0 ≤ a ∧ a ≤ nI N)))) n k (mW w o nw rd ps de im ik tx le pz tk ta va fa se it al ln fz fb be fo fm io) := by
  have v0 : vp_in 31 59 := vp_in_nI (n := 31) (by omega) (by omega)
  have y0 : (31 : Int32).toNatClampNeg = 31 := by decide
  have hb : ∀ {p : Prop} [Decidable p], (narrow .boolean (.int (gb p)) = .int (gb p)) = True := by
    intro p _
    by_cases hp : p
    · rw [gb_t hp]; exact narZ1
    · rw [gb_f hp]; exact narZ0
  simp only [eX6_isBin_0, eX6_isBin_1, eX6_isBin_2, eX6_isBin_3, eX6_isBin_6, eX6_isBin_8, eX6_isBin_9, eX6_isBin_12, Option.toList_some, Option.toList_none, List.cons_append, List.nil_append, gcat_nil, gcat_cons, cat_int, cat_ref, cat_null, cat_ret, cat_long, grc_ref, narZ0, narZ1, true_and, and_true, decide_true, Nat.reduceAdd, Nat.reduceLeDiff, if_true, if_false, eq_self, gfld_in, gobj_in, garr_in, garq_in, glen_in, gisO_in, ex_some, List.getElem?_cons_succ, List.getElem?_cons_zero, List.length_cons, List.length_nil, List.set_cons_succ, List.set_cons_zero, Nat.reduceLT, va_up_eq, va_up_nl, mW_0, mW_1, v0, y0, h31, c6_in, hb]
end MW
