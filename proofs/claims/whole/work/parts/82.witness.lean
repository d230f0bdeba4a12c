/-! THE WITNESS -/
def wW (w : gH) (sr su ty : Nat → Int32) (sc sz : Int32) : gH := fun a => if a = 20 then (.inr (4, [.ref 21, .ref 22, .ref 23, .int (sc), .int (sz)]) : gE) else if a = 21 then (.inl (.int, 18, .inl (sr)) : gE) else if a = 22 then (.inl (.int, 13, .inl (su)) : gE) else if a = 23 then (.inl (.int, 7, .inl (ty)) : gE) else w a
section WB
variable {w : gH} {sr su ty : Nat → Int32} {sc sz : Int32}
theorem wW_20 : wW w sr su ty sc sz 20 = (.inr (4, [.ref 21, .ref 22, .ref 23, .int (sc), .int (sz)]) : gE) := rfl
theorem wW_21 : wW w sr su ty sc sz 21 = (.inl (.int, 18, .inl (sr)) : gE) := rfl
theorem wW_22 : wW w sr su ty sc sz 22 = (.inl (.int, 13, .inl (su)) : gE) := rfl
theorem wW_23 : wW w sr su ty sc sz 23 = (.inl (.int, 7, .inl (ty)) : gE) := rfl
theorem wW_ne {a : Nat} (h : a < 20 ∨ 23 < a) : wW w sr su ty sc sz a = w a := by
  unfold wW
  rw [if_neg (by omega), if_neg (by omega), if_neg (by omega), if_neg (by omega)]
theorem wW_p20 {x y : Int32} : va_up (wW w sr su ty sc sz) 20 (.inr (4, [.ref 21, .ref 22, .ref 23, .int (x), .int (y)]) : gE) = wW w sr su ty x y := by
  funext z
  unfold wW va_up
  by_cases h : z = 20 <;> simp [h]
theorem wW_p21 {f : Nat → Int32} : va_up (wW w sr su ty sc sz) 21 (.inl (.int, 18, .inl (f)) : gE) = wW w f su ty sc sz := by
  funext z
  unfold wW va_up
  by_cases h : z = 21 <;> simp [h]
theorem wW_p22 {f : Nat → Int32} : va_up (wW w sr su ty sc sz) 22 (.inl (.int, 13, .inl (f)) : gE) = wW w sr f ty sc sz := by
  funext z
  unfold wW va_up
  by_cases h : z = 22 <;> simp [h]
theorem wW_p23 {f : Nat → Int32} : va_up (wW w sr su ty sc sz) 23 (.inl (.int, 7, .inl (f)) : gE) = wW w sr su f sc sz := by
  funext z
  unfold wW va_up
  by_cases h : z = 23 <;> simp [h]
theorem wW_tr {kr ts co : Nat → Int32} {kc tc rm jm : Int32} (h : isTr w 1 kr ts co kc tc rm jm) : isTr (wW w sr su ty sc sz) 1 kr ts co kc tc rm jm := by
  obtain ⟨h0, h1, h2, h3⟩ := h
  exact ⟨by rw [wW_ne (by omega), h0], by rw [wW_ne (by omega), h1], by rw [wW_ne (by omega), h2], by rw [wW_ne (by omega), h3]⟩
theorem wW_1 {kr ts co : Nat → Int32} {kc tc rm jm : Int32} (h : isTr w 1 kr ts co kc tc rm jm) : wW w sr su ty sc sz 1 = .inr (3, [.ref 2, .ref 3, .ref 4, .int kc, .int tc, .int rm, .int jm]) := by
  rw [wW_ne (by omega)]
  exact h.1
theorem wW_self (h20 : w 20 = (.inr (4, [.ref 21, .ref 22, .ref 23, .int (sc), .int (sz)]) : gE)) (h21 : w 21 = (.inl (.int, 18, .inl (sr)) : gE)) (h22 : w 22 = (.inl (.int, 13, .inl (su)) : gE)) (h23 : w 23 = (.inl (.int, 7, .inl (ty)) : gE)) : wW w sr su ty sc sz = w := by
  funext z
  unfold wW
  by_cases q1 : z = 20
  · rw [if_pos q1, q1, h20]
  · rw [if_neg q1]
    by_cases q2 : z = 21
    · rw [if_pos q2, q2, h21]
    · rw [if_neg q2]
      by_cases q3 : z = 22
      · rw [if_pos q3, q3, h22]
      · rw [if_neg q3]
        by_cases q4 : z = 23
        · rw [if_pos q4, q4, h23]
        · rw [if_neg q4]
end WB
abbrev pex (kr ts : Nat → Int32) (K N c x b u : Nat) : Prop := c < K ∧ nI x ≤ kr (5 * c + 3) ∧ gbc kr ts N (nI c) (nI x) (gsu u) = b
abbrev pxa (kr ts : Nat → Int32) (K N : Nat) (Fk Fx Fb : Nat → Nat) (S u : Nat) : Prop := ∀ f, f < S → pex kr ts K N (Fk f) (Fx f) (Fb f) u
abbrev pct (ts : Nat → Int32) (u : Nat) : Prop := u = 0 ∨ ¬ ts (3 * ((u - 1) / 2)) = 2
def psl (kr ts : Nat → Int32) (K N : Nat) (Fk Fx Fb : Nat → Nat) (S : Nat) : Nat → Nat → List Nat := gfl (fun u => pct ts u ∧ pxa kr ts K N Fk Fx Fb S u)
section WC
variable {X : gX} {n k : Nat} {w : gH} {Q : Option Value → Nat → Nat → gH → Prop} {sr su ty : Nat → Int32} {kr ts co : Nat → Int32} {rm jm : Int32} {K N S : Nat} {We Fk Fx Fb : Nat → Nat} {l : List Nat}
theorem c_wappend {s : Nat} (hs : s ≤ 6) {a x b : Int32} {sz : Int32} : gEv (gT X) 77 0 [.ref 20, .int a, .int x, .int b, .null] [] n k (wW w sr su ty (nI s) sz) Q ↔ (if s = 6 then Q (some (.int 0)) n k (wW w sr su ty (nI s) sz) else Q (some (.int 1)) n k (wW w (upd (upd (upd sr (3 * s) a) (3 * s + 1) x) (3 * s + 2) b) su ty (nI (s + 1)) sz)) := by
  have c0 : ¬ nI (3 * s) < 0 := nI_pos (by omega)
  by_cases q : s = 6
  · have c1 : ¬ nI (3 * s + 3) ≤ Int32.ofNat 18 := nI_ge (a := 18) (by omega) (by omega)
    rw [if_pos q]
    simp only [eX4_append_0, eX4_append_1, eX4_append_4, eX4_append_5, eX4_append_6, eX4_append_6b, eX4_append_6c, eX4_append_6d, eX4_append_8, eX4_append_10, eX4_append_13, eX4_append_15, eX4_append_16, eX4_append_17, eX4_append_18, eX4_append_21, eX4_append_22, eX4_append_25, eX4_append_26, eX4_append_27, eX4_append_28, eX4_append_31, eX4_append_33, eX4_append_34, eX4_append_35, eX4_append_36, eX4_append_37, eX4_append_38, eX4_append_41, eX4_append_43, eX4_append_44, eX4_append_45, eX4_append_46, eX4_append_47, eX4_append_48, eX4_append_51, eX4_append_53, eX4_append_54, eX4_append_55, eX4_append_56, eX4_append_57, eX4_append_58, eX4_append_58b, eX4_append_59, eX4_append_62, eX4_append_63, eX4_append_64, eX4_append_67, eX4_append_68, Option.toList_some, Option.toList_none, List.cons_append, List.nil_append, gcat_nil, gcat_cons, cat_int, cat_ref, cat_null, cat_ret, cat_long, grc_ref, narZ0, narZ1, true_and, and_true, decide_true, Nat.reduceAdd, Nat.reduceLeDiff, if_true, if_false, eq_self, gfld_in, gobj_in, garr_in, garq_in, glen_in, gisO_in, ex_some, List.getElem?_cons_succ, List.getElem?_cons_zero, List.length_cons, List.length_nil, List.set_cons_succ, List.set_cons_zero, Nat.reduceLT, va_up_eq, va_up_nl, wW_20, wW_21, nI3, c0, nIp3, c1]
  · have c1 : nI (3 * s + 3) ≤ Int32.ofNat 18 := nI_le (b := 18) (by omega) (by omega)
    have v0 : vp_in (nI (3 * s)) 18 := vp_in_nI (by omega) (by omega)
    have v1 : vp_in (nI (3 * s + 1)) 18 := vp_in_nI (by omega) (by omega)
    have v2 : vp_in (nI (3 * s + 2)) 18 := vp_in_nI (by omega) (by omega)
    rw [if_neg q]
    simp only [eX4_append_0, eX4_append_1, eX4_append_4, eX4_append_5, eX4_append_6, eX4_append_6b, eX4_append_6c, eX4_append_6d, eX4_append_8, eX4_append_10, eX4_append_13, eX4_append_15, eX4_append_16, eX4_append_17, eX4_append_18, eX4_append_21, eX4_append_22, eX4_append_25, eX4_append_26, eX4_append_27, eX4_append_28, eX4_append_31, eX4_append_33, eX4_append_34, eX4_append_35, eX4_append_36, eX4_append_37, eX4_append_38, eX4_append_41, eX4_append_43, eX4_append_44, eX4_append_45, eX4_append_46, eX4_append_47, eX4_append_48, eX4_append_51, eX4_append_53, eX4_append_54, eX4_append_55, eX4_append_56, eX4_append_57, eX4_append_58, eX4_append_58b, eX4_append_59, eX4_append_62, eX4_append_63, eX4_append_64, eX4_append_67, eX4_append_68, Option.toList_some, Option.toList_none, List.cons_append, List.nil_append, gcat_nil, gcat_cons, cat_int, cat_ref, cat_null, cat_ret, cat_long, grc_ref, narZ0, narZ1, true_and, and_true, decide_true, Nat.reduceAdd, Nat.reduceLeDiff, if_true, if_false, eq_self, gfld_in, gobj_in, garr_in, garq_in, glen_in, gisO_in, ex_some, List.getElem?_cons_succ, List.getElem?_cons_zero, List.length_cons, List.length_nil, List.set_cons_succ, List.set_cons_zero, Nat.reduceLT, va_up_eq, va_up_nl, wW_20, wW_21, nI3, c0, nIp3, c1, nIp0, nI_1, nIp2, v0, v1, v2, nI_clamp (show 3 * s < 2 ^ 31 by omega), nI_clamp (show 3 * s + 1 < 2 ^ 31 by omega), nI_clamp (show 3 * s + 2 < 2 ^ 31 by omega), wW_p21, wW_p20]
theorem c_explainsAll (hT : isTr w 1 kr ts co (nI K) (nI N) rm jm) (hK : K ≤ 6) (hN : N ≤ 6) (hF : gFa sr Fk Fx Fb S) {u : Nat} {sz : Int32} : gEv (gT X) 80 0 [.ref 20, .ref 1, .int (gsu u), .null, .null, .null] [] n k (wW w sr su ty (nI S) sz) Q ↔ Q (some (.int (gb (pxa kr ts K N Fk Fx Fb S u)))) n k (wW w sr su ty (nI S) sz) := by
  obtain ⟨hS, hF⟩ := hF
  have loop : ∀ (D f : Nat) (v4 v5 : Value), f + D = S → (∀ z, z < f → pex kr ts K N (Fk z) (Fx z) (Fb z) u) → (gEv (gT X) 80 2 [.ref 20, .ref 1, .int (gsu u), .int (nI (3 * f)), v4, v5] [] n k (wW w sr su ty (nI S) sz) Q ↔ Q (some (.int (gb (pxa kr ts K N Fk Fx Fb S u)))) n k (wW w sr su ty (nI S) sz)) := by
    intro D
    induction D with
    | zero =>
      intro f v4 v5 hf hz
      have hc : nI (3 * S) ≤ nI (3 * f) := nI_le (by omega) (by omega)
      rw [eX4_explainsAll_2]
      simp only [eX4_explainsAll_3, eX4_explainsAll_4, eX4_explainsAll_7, eX4_explainsAll_8, eX4_explainsAll_9, eX4_explainsAll_82, eX4_explainsAll_83, Option.toList_some, Option.toList_none, List.cons_append, List.nil_append, gcat_nil, gcat_cons, cat_int, cat_ref, cat_null, cat_ret, cat_long, grc_ref, narZ0, narZ1, true_and, and_true, decide_true, Nat.reduceAdd, Nat.reduceLeDiff, if_true, if_false, eq_self, gfld_in, gobj_in, garr_in, garq_in, glen_in, gisO_in, ex_some, List.getElem?_cons_succ, List.getElem?_cons_zero, List.length_cons, List.length_nil, List.set_cons_succ, List.set_cons_zero, Nat.reduceLT, va_up_eq, va_up_nl, wW_20, nI3, hc]
      rw [gb_t (show pxa kr ts K N Fk Fx Fb S u from fun z h => hz z (by omega))]
    | succ D ih =>
      intro f v4 v5 hf hz
      have hc : ¬ nI (3 * S) ≤ nI (3 * f) := nI_ge (by omega) (by omega)
      have hc2 : ¬ Int32.ofNat 18 ≤ nI (3 * f + 2) := nI_ge (a := 3 * f + 2) (b := 18) (by omega) (by omega)
      have v0 : vp_in (nI (3 * f)) 18 := vp_in_nI (by omega) (by omega)
      have v1 : vp_in (nI (3 * f + 1)) 18 := vp_in_nI (by omega) (by omega)
      have v2 : vp_in (nI (3 * f + 2)) 18 := vp_in_nI (by omega) (by omega)
      obtain ⟨q1, q2, q3, q4, q5, q6⟩ := hF f (by omega)
      have e3 : gof kr 30 (nI (Fk f) * 5 + 3) = kr (5 * Fk f + 3) := by rw [nI5, nIp3, gof_at (by omega) (by omega)]
      have hle : gbc kr ts N (nI (Fk f)) (nI (Fx f)) (gsu u) ≤ N := by
        have := gfst_le (fun i => gfall (ts (3 * i)) (ts (3 * i + 1)) (gsh (gsu u) i) (gof kr 30 (nI (Fk f) * 5 + 0)) (gof kr 30 (nI (Fk f) * 5 + 1) - nI (Fx f)) (gof kr 30 (nI (Fk f) * 5 + 2)) = true) N 0
        unfold gbc gbn
        omega
      have hin : ((0 ≤ nI (Fk f) ∧ nI (Fk f) < nI K) ∧ 0 ≤ nI (Fx f) ∧ nI (Fx f) ≤ kr (5 * Fk f + 3)) ↔ (Fk f < K ∧ nI (Fx f) ≤ kr (5 * Fk f + 3)) := by
        constructor
        · rintro ⟨⟨_, h1⟩, _, h2⟩
          refine ⟨?_, h2⟩
          by_cases h : Fk f < K
          · exact h
          · exact absurd h1 (nI_nlt (by omega) (by omega))
        · rintro ⟨h1, h2⟩
          exact ⟨⟨nI_pos' (by omega), nI_lt h1 (by omega)⟩, nI_pos' (by omega), h2⟩
      rw [eX4_explainsAll_2]
      simp only [eX4_explainsAll_3, eX4_explainsAll_4, eX4_explainsAll_7, eX4_explainsAll_8, eX4_explainsAll_9, eX4_explainsAll_12, eX4_explainsAll_13, eX4_explainsAll_14, eX4_explainsAll_15, eX4_explainsAll_16, eX4_explainsAll_19, eX4_explainsAll_20, eX4_explainsAll_23, eX4_explainsAll_24, eX4_explainsAll_27, eX4_explainsAll_28, eX4_explainsAll_29, eX4_explainsAll_30, eX4_explainsAll_31, eX4_explainsAll_31b, eX4_explainsAll_31c, eX4_explainsAll_31d, eX4_explainsAll_33, eX4_explainsAll_34, eX4_explainsAll_37, eX4_explainsAll_38, eX4_explainsAll_39, eX4_explainsAll_40, eX4_explainsAll_41, eX4_explainsAll_41b, eX4_explainsAll_41c, eX4_explainsAll_41d, eX4_explainsAll_43, eX4_explainsAll_44, eX4_explainsAll_46, eX4_explainsAll_48, eX4_explainsAll_51, Option.toList_some, Option.toList_none, List.cons_append, List.nil_append, gcat_nil, gcat_cons, cat_int, cat_ref, cat_null, cat_ret, cat_long, grc_ref, narZ0, narZ1, true_and, and_true, decide_true, Nat.reduceAdd, Nat.reduceLeDiff, if_true, if_false, eq_self, gfld_in, gobj_in, garr_in, garq_in, glen_in, gisO_in, ex_some, List.getElem?_cons_succ, List.getElem?_cons_zero, List.length_cons, List.length_nil, List.set_cons_succ, List.set_cons_zero, Nat.reduceLT, va_up_eq, va_up_nl, wW_20, wW_21, wW_1 hT, nI3, hc, nIp2, hc2, nIp0, nI_1, v0, v1, nI_clamp (show 3 * f < 2 ^ 31 by omega), nI_clamp (show 3 * f + 1 < 2 ^ 31 by omega), q1, q2, c_hasCoin (wW_tr hT), e3, gb_0, hin]
      by_cases c1 : Fk f < K ∧ nI (Fx f) ≤ kr (5 * Fk f + 3)
      · rw [if_neg (fun z => z c1)]
        have hi : (nI (gbc kr ts N (nI (Fk f)) (nI (Fx f)) (gsu u)) = nI (Fb f)) ↔ gbc kr ts N (nI (Fk f)) (nI (Fx f)) (gsu u) = Fb f := nI_eq (by omega) (by omega)
        simp only [eX4_explainsAll_54, eX4_explainsAll_55, eX4_explainsAll_57, eX4_explainsAll_59, eX4_explainsAll_60, eX4_explainsAll_63, eX4_explainsAll_64, eX4_explainsAll_67, eX4_explainsAll_68, eX4_explainsAll_69, eX4_explainsAll_70, eX4_explainsAll_71, Option.toList_some, Option.toList_none, List.cons_append, List.nil_append, gcat_nil, gcat_cons, cat_int, cat_ref, cat_null, cat_ret, cat_long, grc_ref, narZ0, narZ1, true_and, and_true, decide_true, Nat.reduceAdd, Nat.reduceLeDiff, if_true, if_false, eq_self, gfld_in, gobj_in, garr_in, garq_in, glen_in, gisO_in, ex_some, List.getElem?_cons_succ, List.getElem?_cons_zero, List.length_cons, List.length_nil, List.set_cons_succ, List.set_cons_zero, Nat.reduceLT, va_up_eq, va_up_nl, wW_20, wW_21, wW_1 hT, c_binOfCoin hN (wW_tr hT), nIp2, v2, nI_clamp (show 3 * f + 2 < 2 ^ 31 by omega), q3, hi]
        by_cases c2 : gbc kr ts N (nI (Fk f)) (nI (Fx f)) (gsu u) = Fb f
        · rw [if_pos c2]
          simp only [eX4_explainsAll_76, eX4_explainsAll_76b, eX4_explainsAll_76c, eX4_explainsAll_76d, eX4_explainsAll_79, Option.toList_some, Option.toList_none, List.cons_append, List.nil_append, gcat_nil, gcat_cons, cat_int, cat_ref, cat_null, cat_ret, cat_long, grc_ref, narZ0, narZ1, true_and, and_true, decide_true, Nat.reduceAdd, Nat.reduceLeDiff, if_true, if_false, eq_self, gfld_in, gobj_in, garr_in, garq_in, glen_in, gisO_in, ex_some, List.getElem?_cons_succ, List.getElem?_cons_zero, List.length_cons, List.length_nil, List.set_cons_succ, List.set_cons_zero, Nat.reduceLT, va_up_eq, va_up_nl, nIp3]
          have := ih (f + 1) (.int (nI (Fk f))) (.int (nI (Fx f))) (by omega) (fun z h => by
            by_cases y : z = f
            · rw [y]; exact ⟨c1.1, c1.2, c2⟩
            · exact hz z (by omega))
          rw [show 3 * (f + 1) = 3 * f + 3 by omega] at this
          exact this
        · rw [if_neg c2]
          simp only [eX4_explainsAll_74, eX4_explainsAll_75, Option.toList_some, Option.toList_none, List.cons_append, List.nil_append, gcat_nil, gcat_cons, cat_int, cat_ref, cat_null, cat_ret, cat_long, grc_ref, narZ0, narZ1, true_and, and_true, decide_true, Nat.reduceAdd, Nat.reduceLeDiff, if_true, if_false, eq_self, gfld_in, gobj_in, garr_in, garq_in, glen_in, gisO_in, ex_some, List.getElem?_cons_succ, List.getElem?_cons_zero, List.length_cons, List.length_nil, List.set_cons_succ, List.set_cons_zero, Nat.reduceLT, va_up_eq, va_up_nl]
          rw [gb_f (show ¬ pxa kr ts K N Fk Fx Fb S u from fun z => c2 (z f (by omega)).2.2)]
      · rw [if_pos c1]
        simp only [eX4_explainsAll_74, eX4_explainsAll_75, Option.toList_some, Option.toList_none, List.cons_append, List.nil_append, gcat_nil, gcat_cons, cat_int, cat_ref, cat_null, cat_ret, cat_long, grc_ref, narZ0, narZ1, true_and, and_true, decide_true, Nat.reduceAdd, Nat.reduceLeDiff, if_true, if_false, eq_self, gfld_in, gobj_in, garr_in, garq_in, glen_in, gisO_in, ex_some, List.getElem?_cons_succ, List.getElem?_cons_zero, List.length_cons, List.length_nil, List.set_cons_succ, List.set_cons_zero, Nat.reduceLT, va_up_eq, va_up_nl]
        rw [gb_f (show ¬ pxa kr ts K N Fk Fx Fb S u from fun z => c1 ⟨(z f (by omega)).1, (z f (by omega)).2.1⟩)]
  have h0 := loop S 0 .null .null (by omega) (fun z h => absurd h (by omega))
  rw [Nat.mul_zero, nI_0] at h0
  simp only [eX4_explainsAll_0, eX4_explainsAll_1, eX4_explainsAll_1b, eX4_explainsAll_1c, eX4_explainsAll_1d, Option.toList_some, Option.toList_none, List.cons_append, List.nil_append, gcat_nil, gcat_cons, cat_int, cat_ref, cat_null, cat_ret, cat_long, grc_ref, narZ0, narZ1, true_and, and_true, decide_true, Nat.reduceAdd, Nat.reduceLeDiff, if_true, if_false, eq_self, gfld_in, gobj_in, garr_in, garq_in, glen_in, gisO_in, ex_some, List.getElem?_cons_succ, List.getElem?_cons_zero, List.length_cons, List.length_nil, List.set_cons_succ, List.set_cons_zero, Nat.reduceLT, va_up_eq, va_up_nl]
  exact h0
theorem c_accuse (hT : isTr w 1 kr ts co (nI K) (nI N) rm jm) (hK : K ≤ 6) (hN : N ≤ 6) (hF : gFa sr Fk Fx Fb S) {u : Nat} (hl : l.length < 13) : gEv (gT X) 79 0 [.ref 20, .ref 1, .int (gsu u)] [] n k (wW w sr su ty (nI S) (nI l.length)) Q ↔ (if pxa kr ts K N Fk Fx Fb S u then Q none n k (wW w sr (upd su l.length (gsu u)) ty (nI S) (nI (l.length + 1))) else Q none n k (wW w sr su ty (nI S) (nI l.length))) := by
  have hc : ¬ Int32.ofNat 13 ≤ nI l.length := nI_ge (a := l.length) (b := 13) (by omega) (by omega)
  have v : vp_in (nI l.length) 13 := vp_in_nI (by omega) (by omega)
  simp only [eX4_accuse_0, eX4_accuse_1, eX4_accuse_2, eX4_accuse_3, eX4_accuse_6, Option.toList_some, Option.toList_none, List.cons_append, List.nil_append, gcat_nil, gcat_cons, cat_int, cat_ref, cat_null, cat_ret, cat_long, grc_ref, narZ0, narZ1, true_and, and_true, decide_true, Nat.reduceAdd, Nat.reduceLeDiff, if_true, if_false, eq_self, gfld_in, gobj_in, garr_in, garq_in, glen_in, gisO_in, ex_some, List.getElem?_cons_succ, List.getElem?_cons_zero, List.length_cons, List.length_nil, List.set_cons_succ, List.set_cons_zero, Nat.reduceLT, va_up_eq, va_up_nl, wW_20, c_explainsAll hT hK hN hF, gb_0]
  by_cases q : pxa kr ts K N Fk Fx Fb S u
  · rw [if_neg (fun z => z q), if_pos q]
    simp only [eX4_accuse_9, eX4_accuse_10, eX4_accuse_13, eX4_accuse_14, eX4_accuse_17, eX4_accuse_18, eX4_accuse_21, eX4_accuse_22, eX4_accuse_25, eX4_accuse_26, eX4_accuse_29, eX4_accuse_30, eX4_accuse_31, eX4_accuse_32, eX4_accuse_32b, eX4_accuse_33, eX4_accuse_36, eX4_accuse_37, eX4_accuse_38, eX4_accuse_41, Option.toList_some, Option.toList_none, List.cons_append, List.nil_append, gcat_nil, gcat_cons, cat_int, cat_ref, cat_null, cat_ret, cat_long, grc_ref, narZ0, narZ1, true_and, and_true, decide_true, Nat.reduceAdd, Nat.reduceLeDiff, if_true, if_false, eq_self, gfld_in, gobj_in, garr_in, garq_in, glen_in, gisO_in, ex_some, List.getElem?_cons_succ, List.getElem?_cons_zero, List.length_cons, List.length_nil, List.set_cons_succ, List.set_cons_zero, Nat.reduceLT, va_up_eq, va_up_nl, wW_20, wW_22, hc, v, nI_clamp (show l.length < 2 ^ 31 by omega), wW_p22, wW_p20, nI_1]
  · rw [if_pos q, if_neg q]
    simp only [eX4_accuse_41, Option.toList_some, Option.toList_none, List.cons_append, List.nil_append, gcat_nil, gcat_cons, cat_int, cat_ref, cat_null, cat_ret, cat_long, grc_ref, narZ0, narZ1, true_and, and_true, decide_true, Nat.reduceAdd, Nat.reduceLeDiff, if_true, if_false, eq_self, gfld_in, gobj_in, garr_in, garq_in, glen_in, gisO_in, ex_some, List.getElem?_cons_succ, List.getElem?_cons_zero, List.length_cons, List.length_nil, List.set_cons_succ, List.set_cons_zero, Nat.reduceLT, va_up_eq, va_up_nl]
theorem c_gather (hT : isTr w 1 kr ts co (nI K) (nI N) rm jm) (hK : K ≤ 6) (hN : N ≤ 6) (hF : gFa sr Fk Fx Fb S) {sz : Int32} (hQ : ∀ su, gagu su (psl kr ts K N Fk Fx Fb S 0 (2 * N + 1)) → Q none n k (wW w sr su ty (nI S) (nI (psl kr ts K N Fk Fx Fb S 0 (2 * N + 1)).length))) : gEv (gT X) 78 0 [.ref 20, .ref 1, .null] [] n k (wW w sr su ty (nI S) sz) Q := by
  have acc : ∀ (u : Nat) (l : List Nat) (su : Nat → Int32) (pc : Nat) (ls st : List Value), l.length < 13 → pct ts u → gagu su l → (∀ su l', l' = (if pxa kr ts K N Fk Fx Fb S u then l ++ [u] else l) → gagu su l' → gEv (gT X) 78 pc ls st n k (wW w sr su ty (nI S) (nI l'.length)) Q) → gEv (gT X) 79 0 [.ref 20, .ref 1, .int (gsu u)] [] n k (wW w sr su ty (nI S) (nI l.length)) (fun v n' k' w' => gEv (gT X) 78 pc ls (v.toList ++ st) n' k' w' Q) := by
    intro u l su pc ls st hl hp hg hq
    rw [c_accuse hT hK hN hF hl]
    by_cases q : pxa kr ts K N Fk Fx Fb S u
    · rw [if_pos q]
      have := hq (upd su l.length (gsu u)) (l ++ [u]) (by rw [if_pos q]) (gagu_app hg)
      rw [List.length_append, List.length_singleton] at this
      exact this
    · rw [if_neg q]
      exact hq su l (by rw [if_neg q]) hg
  have step : ∀ (u D : Nat) (l : List Nat), pct ts u → l ++ psl kr ts K N Fk Fx Fb S u (D + 1) = (if pxa kr ts K N Fk Fx Fb S u then l ++ [u] else l) ++ psl kr ts K N Fk Fx Fb S (u + 1) D := by
    intro u D l hp
    unfold psl
    rw [gfl]
    by_cases q : pxa kr ts K N Fk Fx Fb S u
    · rw [if_pos ⟨hp, q⟩, if_pos q]; simp
    · rw [if_neg (fun z => q z.2), if_neg q]
  have skip : ∀ (u D : Nat), ¬ pct ts u → psl kr ts K N Fk Fx Fb S u (D + 1) = psl kr ts K N Fk Fx Fb S (u + 1) D := by
    intro u D hp
    unfold psl
    rw [gfl, if_neg (fun z => hp z.1)]
  have llen : ∀ (l : List Nat) (u : Nat), (if pxa kr ts K N Fk Fx Fb S u then l ++ [u] else l).length ≤ l.length + 1 := by
    intro l u
    by_cases q : pxa kr ts K N Fk Fx Fb S u
    · rw [if_pos q, List.length_append, List.length_singleton]; exact Nat.le_refl _
    · rw [if_neg q]; omega
  have loop : ∀ (D t : Nat) (l : List Nat) (su : Nat → Int32), t + D = N → l.length ≤ 2 * t + 1 → gagu su l → (∀ su, gagu su (l ++ psl kr ts K N Fk Fx Fb S (2 * t + 1) (2 * D)) → Q none n k (wW w sr su ty (nI S) (nI (l ++ psl kr ts K N Fk Fx Fb S (2 * t + 1) (2 * D)).length))) → gEv (gT X) 78 13 [.ref 20, .ref 1, .int (nI t)] [] n k (wW w sr su ty (nI S) (nI l.length)) Q := by
    intro D
    induction D with
    | zero =>
      intro t l su ht hl hg hq
      have hc : nI N ≤ nI t := nI_le (by omega) (by omega)
      rw [eX4_gather_13]
      simp only [eX4_gather_14, eX4_gather_15, eX4_gather_18, eX4_gather_55, Option.toList_some, Option.toList_none, List.cons_append, List.nil_append, gcat_nil, gcat_cons, cat_int, cat_ref, cat_null, cat_ret, cat_long, grc_ref, narZ0, narZ1, true_and, and_true, decide_true, Nat.reduceAdd, Nat.reduceLeDiff, if_true, if_false, eq_self, gfld_in, gobj_in, garr_in, garq_in, glen_in, gisO_in, ex_some, List.getElem?_cons_succ, List.getElem?_cons_zero, List.length_cons, List.length_nil, List.set_cons_succ, List.set_cons_zero, Nat.reduceLT, va_up_eq, va_up_nl, wW_1 hT, hc]
      have := hq su
      rw [Nat.mul_zero] at this
      unfold psl at this
      rw [gfl, List.append_nil] at this
      exact this hg
    | succ D ih =>
      intro t l su ht hl hg hq
      have hc : ¬ nI N ≤ nI t := nI_ge (by omega) (by omega)
      have e0 : gof ts 18 (nI t * 3 + 0) = ts (3 * t) := by rw [nI3, nIp0, gof_at (by omega) (by omega)]
      have p1 : pct ts (2 * t + 1) ↔ ¬ ts (3 * t) = 2 := by
        unfold pct
        rw [show (2 * t + 1 - 1) / 2 = t by omega]
        exact ⟨fun z => z.resolve_left (by omega), Or.inr⟩
      have p2 : pct ts (2 * t + 2) ↔ ¬ ts (3 * t) = 2 := by
        unfold pct
        rw [show (2 * t + 2 - 1) / 2 = t by omega]
        exact ⟨fun z => z.resolve_left (by omega), Or.inr⟩
      rw [show 2 * (D + 1) = 2 * D + 1 + 1 by omega] at hq
      rw [eX4_gather_13]
      simp only [eX4_gather_14, eX4_gather_15, eX4_gather_18, eX4_gather_21, eX4_gather_22, eX4_gather_23, eX4_gather_24, eX4_gather_27, eX4_gather_28, Option.toList_some, Option.toList_none, List.cons_append, List.nil_append, gcat_nil, gcat_cons, cat_int, cat_ref, cat_null, cat_ret, cat_long, grc_ref, narZ0, narZ1, true_and, and_true, decide_true, Nat.reduceAdd, Nat.reduceLeDiff, if_true, if_false, eq_self, gfld_in, gobj_in, garr_in, garq_in, glen_in, gisO_in, ex_some, List.getElem?_cons_succ, List.getElem?_cons_zero, List.length_cons, List.length_nil, List.set_cons_succ, List.set_cons_zero, Nat.reduceLT, va_up_eq, va_up_nl, wW_1 hT, hc, c_ofTest (wW_tr hT), e0]
      by_cases q : ts (3 * t) = 2
      · rw [if_pos q]
        simp only [eX4_gather_49, eX4_gather_49b, eX4_gather_49c, eX4_gather_49d, eX4_gather_52, Option.toList_some, Option.toList_none, List.cons_append, List.nil_append, gcat_nil, gcat_cons, cat_int, cat_ref, cat_null, cat_ret, cat_long, grc_ref, narZ0, narZ1, true_and, and_true, decide_true, Nat.reduceAdd, Nat.reduceLeDiff, if_true, if_false, eq_self, gfld_in, gobj_in, garr_in, garq_in, glen_in, gisO_in, ex_some, List.getElem?_cons_succ, List.getElem?_cons_zero, List.length_cons, List.length_nil, List.set_cons_succ, List.set_cons_zero, Nat.reduceLT, va_up_eq, va_up_nl, nI_1]
        rw [skip _ _ (fun z => (p1.mp z) q), show 2 * t + 1 + 1 = 2 * t + 2 by omega, skip _ _ (fun z => (p2.mp z) q), show 2 * t + 2 + 1 = 2 * (t + 1) + 1 by omega] at hq
        exact ih (t + 1) l su (by omega) (by omega) hg hq
      · rw [if_neg q]
        have g1 : nI (2 * t) = gsu (2 * t + 1) := (nI_pred _).symm
        have g2 : nI (2 * t + 1) = gsu (2 * t + 2) := (nI_pred _).symm
        have e2 : 2 * nI t = nI (2 * t) := by rw [show (2 : Int32) = nI 2 from rfl, pk_mul]
        rw [step _ _ _ (p1.mpr q), show 2 * t + 1 + 1 = 2 * t + 2 by omega, step _ _ _ (p2.mpr q), show 2 * t + 2 + 1 = 2 * (t + 1) + 1 by omega] at hq
        simp only [eX4_gather_31, eX4_gather_32, eX4_gather_33, eX4_gather_34, eX4_gather_35, eX4_gather_36, Option.toList_some, Option.toList_none, List.cons_append, List.nil_append, gcat_nil, gcat_cons, cat_int, cat_ref, cat_null, cat_ret, cat_long, grc_ref, narZ0, narZ1, true_and, and_true, decide_true, Nat.reduceAdd, Nat.reduceLeDiff, if_true, if_false, eq_self, gfld_in, gobj_in, garr_in, garq_in, glen_in, gisO_in, ex_some, List.getElem?_cons_succ, List.getElem?_cons_zero, List.length_cons, List.length_nil, List.set_cons_succ, List.set_cons_zero, Nat.reduceLT, va_up_eq, va_up_nl, wW_20, e2]
        rw [g1]
        refine acc (2 * t + 1) l su _ _ _ (by omega) (p1.mpr q) hg ?_
        intro su l' hl' hg'
        have hlen := llen l (2 * t + 1)
        rw [← hl'] at hq hlen
        simp only [eX4_gather_39, eX4_gather_40, eX4_gather_41, eX4_gather_42, eX4_gather_43, eX4_gather_44, eX4_gather_45, eX4_gather_46, Option.toList_some, Option.toList_none, List.cons_append, List.nil_append, gcat_nil, gcat_cons, cat_int, cat_ref, cat_null, cat_ret, cat_long, grc_ref, narZ0, narZ1, true_and, and_true, decide_true, Nat.reduceAdd, Nat.reduceLeDiff, if_true, if_false, eq_self, gfld_in, gobj_in, garr_in, garq_in, glen_in, gisO_in, ex_some, List.getElem?_cons_succ, List.getElem?_cons_zero, List.length_cons, List.length_nil, List.set_cons_succ, List.set_cons_zero, Nat.reduceLT, va_up_eq, va_up_nl, wW_20, e2, nI_1]
        rw [g2]
        refine acc (2 * t + 2) l' su _ _ _ (by omega) (p2.mpr q) hg' ?_
        intro su l'' hl'' hg''
        have hlen2 := llen l' (2 * t + 2)
        rw [← hl''] at hq hlen2
        simp only [eX4_gather_49, eX4_gather_49b, eX4_gather_49c, eX4_gather_49d, eX4_gather_52, Option.toList_some, Option.toList_none, List.cons_append, List.nil_append, gcat_nil, gcat_cons, cat_int, cat_ref, cat_null, cat_ret, cat_long, grc_ref, narZ0, narZ1, true_and, and_true, decide_true, Nat.reduceAdd, Nat.reduceLeDiff, if_true, if_false, eq_self, gfld_in, gobj_in, garr_in, garq_in, glen_in, gisO_in, ex_some, List.getElem?_cons_succ, List.getElem?_cons_zero, List.length_cons, List.length_nil, List.set_cons_succ, List.set_cons_zero, Nat.reduceLT, va_up_eq, va_up_nl, nI_1]
        exact ih (t + 1) l'' su (by omega) (by omega) hg'' hq
  have e1 : (-1 : Int32) = gsu 0 := by decide
  have s0 := step 0 (2 * N) [] (Or.inl rfl)
  rw [List.nil_append] at s0
  rw [s0] at hQ
  have a0 := acc 0 [] su 11 [.ref 20, .ref 1, .null] [] (by simp) (Or.inl rfl) (fun p hp => absurd hp (by simp)) (fun su l' hl' hg' => by
    have hlen := llen [] 0
    rw [← hl'] at hQ hlen
    simp only [eX4_gather_11, eX4_gather_12, eX4_gather_12b, eX4_gather_12c, eX4_gather_12d, Option.toList_some, Option.toList_none, List.cons_append, List.nil_append, gcat_nil, gcat_cons, cat_int, cat_ref, cat_null, cat_ret, cat_long, grc_ref, narZ0, narZ1, true_and, and_true, decide_true, Nat.reduceAdd, Nat.reduceLeDiff, if_true, if_false, eq_self, gfld_in, gobj_in, garr_in, garq_in, glen_in, gisO_in, ex_some, List.getElem?_cons_succ, List.getElem?_cons_zero, List.length_cons, List.length_nil, List.set_cons_succ, List.set_cons_zero, Nat.reduceLT, va_up_eq, va_up_nl]
    exact loop N 0 l' su (by omega) (by rw [List.length_nil] at hlen; omega) hg' hQ)
  rw [List.length_nil, nI_0] at a0
  simp only [eX4_gather_0, eX4_gather_1, eX4_gather_2, eX4_gather_5, eX4_gather_6, eX4_gather_7, eX4_gather_8, Option.toList_some, Option.toList_none, List.cons_append, List.nil_append, gcat_nil, gcat_cons, cat_int, cat_ref, cat_null, cat_ret, cat_long, grc_ref, narZ0, narZ1, true_and, and_true, decide_true, Nat.reduceAdd, Nat.reduceLeDiff, if_true, if_false, eq_self, gfld_in, gobj_in, garr_in, garq_in, glen_in, gisO_in, ex_some, List.getElem?_cons_succ, List.getElem?_cons_zero, List.length_cons, List.length_nil, List.set_cons_succ, List.set_cons_zero, Nat.reduceLT, va_up_eq, va_up_nl, wW_20, wW_p20, e1]
  exact a0
end WC
