/-! THE CLASS: history -/
theorem gisO_any {c : Nat} {fs : List Value} : gisO 1999 (.inr (c, fs)) = true := by simp [gisO]
theorem sTr_up {w : gH} {t a : Nat} {e : gE} {kr ts co : Nat → Int32} {kc tc rm jm : Int32} (h : a < t ∨ t + 3 < a) : va_up (sTr w t kr ts co kc tc rm jm) a e = sTr (va_up w a e) t kr ts co kc tc rm jm := by
  funext z
  by_cases q : z = a
  · subst q
    rw [sTr_ne h]
    simp [va_up]
  · by_cases q2 : z < t ∨ t + 3 < z
    · rw [sTr_ne q2]
      simp only [va_up, q, if_false]
      exact sTr_ne q2
    · simp only [va_up, q, if_false, sTr]
theorem sTr_in {w : gH} {t a : Nat} {e : gE} {kr ts co : Nat → Int32} {kc tc rm jm : Int32} (h : ¬ (a < t ∨ t + 3 < a)) : sTr (va_up w a e) t kr ts co kc tc rm jm = sTr w t kr ts co kc tc rm jm := by
  funext z
  by_cases q : z = a
  · subst q
    unfold sTr
    have : z = t ∨ z = t + 1 ∨ z = t + 2 ∨ z = t + 3 := by omega
    rcases this with rfl | rfl | rfl | rfl <;> simp
  · unfold sTr va_up
    simp only [q, if_false]
theorem isTr_up {w : gH} {t a : Nat} {e : gE} {kr ts co : Nat → Int32} {kc tc rm jm : Int32} (h : isTr w t kr ts co kc tc rm jm) (hd : a < t ∨ t + 3 < a) : isTr (va_up w a e) t kr ts co kc tc rm jm := by
  obtain ⟨h0, h1, h2, h3⟩ := h
  refine ⟨?_, ?_, ?_, ?_⟩
  · rw [← h0]; unfold va_up; rw [if_neg (by omega)]
  · rw [← h1]; unfold va_up; rw [if_neg (by omega)]
  · rw [← h2]; unfold va_up; rw [if_neg (by omega)]
  · rw [← h3]; unfold va_up; rw [if_neg (by omega)]
theorem isTr_sTr {w : gH} {t p : Nat} {kr ts co kr' ts' co' : Nat → Int32} {kc tc rm jm kc' tc' rm' jm' : Int32} (h : isTr w t kr ts co kc tc rm jm) (hd : p + 3 < t ∨ t + 3 < p) : isTr (sTr w p kr' ts' co' kc' tc' rm' jm') t kr ts co kc tc rm jm := by
  obtain ⟨h0, h1, h2, h3⟩ := h
  refine ⟨?_, ?_, ?_, ?_⟩
  · rw [sTr_ne (by omega), h0]
  · rw [sTr_ne (by omega), h1]
  · rw [sTr_ne (by omega), h2]
  · rw [sTr_ne (by omega), h3]
section HI
variable {X : gX} {n k : Nat} {w : gH} {Q : Option Value → Nat → Nat → gH → Prop} {t : Nat} {kr ts co : Nat → Int32} {kc tc rm jm : Int32}
theorem up_s1 {w : gH} {t : Nat} {e : gE} : va_up w (t + 1) e t = w t := by unfold va_up; rw [if_neg (by omega)]
theorem up_s2 {w : gH} {t : Nat} {e : gE} : va_up w (t + 2) e t = w t := by unfold va_up; rw [if_neg (by omega)]
theorem up_s3 {w : gH} {t : Nat} {e : gE} : va_up w (t + 3) e t = w t := by unfold va_up; rw [if_neg (by omega)]
theorem c_TrackInit (h0 : w t = .inr (3, [.null, .null, .null, .int 0, .int 0, .int 0, .int 0])) : gEv (gT X) 42 0 [.ref t] [] (t + 1) k w Q ↔ Q none (t + 4) (k + 55) (sTr w t (fun _ => 0) (fun _ => 0) (fun _ => 0) 0 0 20 (-9)) := by
  have z1 : (0 : Int32) ≤ 30 ∧ (30 : Int32) ≤ 1000 := by decide
  have z2 : (0 : Int32) ≤ 18 ∧ (18 : Int32) ≤ 1000 := by decide
  have z3 : (0 : Int32) ≤ 7 ∧ (7 : Int32) ≤ 1000 := by decide
  have y1 : (30 : Int32).toNatClampNeg = 30 := by decide
  have y2 : (18 : Int32).toNatClampNeg = 18 := by decide
  have y3 : (7 : Int32).toNatClampNeg = 7 := by decide
  simp only [eX3_init_0, eX3_init_1, eX3_init_4, eX3_init_5, eX3_init_7, eX3_init_9, eX3_init_12, eX3_init_13, eX3_init_15, eX3_init_17, eX3_init_20, eX3_init_21, eX3_init_23, eX3_init_25, eX3_init_28, eX3_init_29, eX3_init_30, eX3_init_33, eX3_init_34, eX3_init_35, eX3_init_38, eX3_init_39, eX3_init_41, eX3_init_44, eX3_init_45, eX3_init_47, eX3_init_50, Option.toList_some, Option.toList_none, List.cons_append, List.nil_append, gcat_nil, gcat_cons, cat_int, cat_ref, cat_null, cat_ret, cat_long, grc_ref, narZ0, narZ1, true_and, and_true, decide_true, Nat.reduceAdd, Nat.reduceLeDiff, if_true, if_false, eq_self, gfld_in, gobj_in, garr_in, garq_in, glen_in, gisO_in, ex_some, List.getElem?_cons_succ, List.getElem?_cons_zero, List.length_cons, List.length_nil, List.set_cons_succ, List.set_cons_zero, Nat.reduceLT, va_up_eq, va_up_nl, h0, gisO_any, z1, z2, z3, y1, y2, y3, up_s1, up_s2, up_s3, Nat.add_assoc, va_up_up]
  have e : va_up (va_up (va_up (va_up (va_up (va_up (va_up (va_up (va_up (va_up w (t + 1) (.inl (.int, 30, .inl (fun _ => 0)))) t (.inr (3, [.ref (t + 1), .null, .null, .int 0, .int 0, .int 0, .int 0]))) (t + 2) (.inl (.int, 18, .inl (fun _ => 0)))) t (.inr (3, [.ref (t + 1), .ref (t + 2), .null, .int 0, .int 0, .int 0, .int 0]))) (t + 3) (.inl (.int, 7, .inl (fun _ => 0)))) t (.inr (3, [.ref (t + 1), .ref (t + 2), .ref (t + 3), .int 0, .int 0, .int 0, .int 0]))) t (.inr (3, [.ref (t + 1), .ref (t + 2), .ref (t + 3), .int 0, .int 0, .int 0, .int 0]))) t (.inr (3, [.ref (t + 1), .ref (t + 2), .ref (t + 3), .int 0, .int 0, .int 0, .int 0]))) t (.inr (3, [.ref (t + 1), .ref (t + 2), .ref (t + 3), .int 0, .int 0, .int 20, .int 0]))) t (.inr (3, [.ref (t + 1), .ref (t + 2), .ref (t + 3), .int 0, .int 0, .int 20, .int (-9)])) = sTr w t (fun _ => 0) (fun _ => 0) (fun _ => 0) 0 0 20 (-9) := by
    funext z
    unfold sTr va_up
    by_cases q0 : z = t
    · simp [q0]
    · by_cases q1 : z = t + 1
      · simp [q1]
      · by_cases q2 : z = t + 2
        · simp [q2]
        · by_cases q3 : z = t + 3
          · simp [q3]
          · simp [q0, q1, q2, q3]
  simp only [va_up_up] at e
  rw [e]
end HI
