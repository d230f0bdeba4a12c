/-! THE CLASS: what is remembered -/
theorem up_lit {w : gH} {a b : Nat} {e : gE} (h : a ≠ b) : va_up w b e a = w a := by unfold va_up; rw [if_neg h]
theorem up_self {w : gH} {a : Nat} {e : gE} (h : w a = e) : va_up w a e = w := by
  funext z
  unfold va_up
  by_cases q : z = a
  · rw [if_pos q, q, h]
  · rw [if_neg q]
theorem upo_eq {f : Nat → Option Nat} {a : Nat} {e : Option Nat} : va_up f a e a = e := by simp [va_up]
theorem upo_self {f : Nat → Option Nat} {a : Nat} {e : Option Nat} (h : f a = e) : va_up f a e = f := by
  funext z
  unfold va_up
  by_cases q : z = a
  · rw [if_pos q, q, h]
  · rw [if_neg q]
theorem up_comm {w : gH} {a b : Nat} {e f : gE} (h : a ≠ b) : va_up (va_up w a e) b f = va_up (va_up w b f) a e := by
  funext z
  unfold va_up
  by_cases q : z = a
  · have : ¬ z = b := by omega
    rw [if_neg this, if_pos q]; simp [q]
  · by_cases q2 : z = b
    · rw [if_pos q2, if_neg q, if_pos q2]
    · rw [if_neg q2, if_neg q, if_neg q, if_neg q2]
theorem va_rf_some {p : Nat} : va_rf (some p) = .ref p := rfl
theorem va_rf_none : va_rf none = .null := rfl
section HB
variable {X : gX} {n k : Nat} {w : gH} {Q : Option Value → Nat → Nat → gH → Prop} {t : Nat} {kr ts co : Nat → Int32} {kc tc rm jm : Int32} {rg : Nat → Option Nat} {nx d : Nat}
def hnx (nx : Nat) : Nat := if nx < 5 then nx + 1 else 0
def hlt (nx : Nat) : Nat := if 0 < nx then nx - 1 else 5
def hmn (d : Nat) : Nat := if d = 6 then 6 else d + 1
theorem c_isPlace {a b x : Int32} {w : gH} {n k : Nat} {Q : Option Value → Nat → Nat → gH → Prop} {rg : Nat → Option Nat} (h5 : w 5 = (.inr (0, [.ref 6, .int (a), .int (b)]) : gE)) (h6 : w 6 = (.inl ((.object "CoinTrack$Track"), 6, .inr (.inr (.inr (.inr (rg))))) : gE)) : gEv (gT X) 12 0 [.ref 5, .int x] [] n k w Q ↔ Q (some (.int (gb (0 ≤ x ∧ x < 6)))) n k w := by
  have e6 : Int32.ofNat 6 = 6 := by decide
  simp only [eX0_isPlace_0, eX0_isPlace_1, eX0_isPlace_4, eX0_isPlace_5, eX0_isPlace_6, eX0_isPlace_9, eX0_isPlace_10, eX0_isPlace_13, eX0_isPlace_14, eX0_isPlace_17, eX0_isPlace_18, Option.toList_some, Option.toList_none, List.cons_append, List.nil_append, gcat_nil, gcat_cons, cat_int, cat_ref, cat_null, cat_ret, cat_long, grc_ref, narZ0, narZ1, true_and, and_true, decide_true, Nat.reduceAdd, Nat.reduceLeDiff, if_true, if_false, eq_self, gfld_in, gobj_in, garr_in, garq_in, glen_in, gisO_in, ex_some, List.getElem?_cons_succ, List.getElem?_cons_zero, List.length_cons, List.length_nil, List.set_cons_succ, List.set_cons_zero, Nat.reduceLT, va_up_eq, va_up_nl, h5, h6, e6]
  by_cases q1 : x < 0
  · rw [if_pos q1, gb_f (fun z => absurd z.1 (Int32.not_le.mpr q1))]
  · rw [if_neg q1]
    by_cases q2 : 6 ≤ x
    · rw [if_pos q2, gb_f (fun z => absurd z.2 (Int32.not_lt.mpr q2))]
    · rw [if_neg q2, gb_t ⟨Int32.not_lt.mp q1, Int32.not_le.mp q2⟩]
theorem c_remTail (p : Nat) (hp : 36 ≤ p) {rg : Nat → Option Nat} {kr0 ts0 co0 : Nat → Int32} {kc0 tc0 rm0 jm0 : Int32} (h5 : w 5 = (.inr (0, [.ref 6, .int (nI nx), .int (nI d)]) : gE)) (h6 : w 6 = (.inl ((.object "CoinTrack$Track"), 6, .inr (.inr (.inr (.inr (rg))))) : gE)) (ht : isTr w 1 kr ts co kc tc rm jm) (hx : nx < 6) (hd : d ≤ 6) (hg : rg nx = some p) (hQ : Q none n k (sTr (va_up w 5 (.inr (0, [.ref 6, .int (nI (hnx nx)), .int (nI (hmn d))]) : gE)) p (gcp kr kr0 30) (gcp ts ts0 18) (gcp co co0 7) kc tc rm jm)) : gEv (gT X) 10 42 [.ref 5, .ref 1, .int (nI nx)] [] n k (sTr w p kr0 ts0 co0 kc0 tc0 rm0 jm0) Q := by
  have g5 : ∀ {kr ts co : Nat → Int32} {kc tc rm jm : Int32}, sTr w p kr ts co kc tc rm jm 5 = (.inr (0, [.ref 6, .int (nI nx), .int (nI d)]) : gE) := by intros; rw [sTr_ne (by omega), h5]
  have g6 : ∀ {kr ts co : Nat → Int32} {kc tc rm jm : Int32}, sTr w p kr ts co kc tc rm jm 6 = (.inl ((.object "CoinTrack$Track"), 6, .inr (.inr (.inr (.inr (rg))))) : gE) := by intros; rw [sTr_ne (by omega), h6]
  have u5 : ∀ {w : gH} {e : gE} {kr ts co : Nat → Int32} {kc tc rm jm : Int32}, va_up (sTr w p kr ts co kc tc rm jm) 5 e = sTr (va_up w 5 e) p kr ts co kc tc rm jm := by intros; exact sTr_up (by omega)
  have g5' : ∀ {w : gH} {e : gE} {kr ts co : Nat → Int32} {kc tc rm jm : Int32}, sTr (va_up w 5 e) p kr ts co kc tc rm jm 5 = e := by intros; rw [sTr_ne (by omega)]; simp [va_up]
  have g6' : ∀ {e : gE} {kr ts co : Nat → Int32} {kc tc rm jm : Int32}, sTr (va_up w 5 e) p kr ts co kc tc rm jm 6 = (.inl ((.object "CoinTrack$Track"), 6, .inr (.inr (.inr (.inr (rg))))) : gE) := by intros; rw [sTr_ne (by omega), up_lit (by omega), h6]
  have vx : vp_in (nI nx) 6 := vp_in_nI hx (by omega)
  have h10 : ¬ (1 : Int32) = 0 := by decide
  have hip : ∀ {kr ts co : Nat → Int32} {kc tc rm jm x : Int32} {Q : Option Value → Nat → Nat → gH → Prop}, gEv (gT X) 12 0 [.ref 5, .int x] [] n k (sTr w p kr ts co kc tc rm jm) Q ↔ Q (some (.int (gb (0 ≤ x ∧ x < 6)))) n k (sTr w p kr ts co kc tc rm jm) := by intros; exact c_isPlace g5 g6
  have hcf : ∀ {Q : Option Value → Nat → Nat → gH → Prop}, gEv (gT X) 44 0 [.ref p, .ref 1] [] n k (sTr w p kr0 ts0 co0 kc0 tc0 rm0 jm0) Q ↔ Q none n k (sTr w p (gcp kr kr0 30) (gcp ts ts0 18) (gcp co co0 7) kc tc rm jm) := c_copyFrom ht (by omega)
  have gp : ∀ {kr ts co : Nat → Int32} {kc tc rm jm : Int32}, gisO 3 (sTr w p kr ts co kc tc rm jm p) = true := by intros; rw [sTr_0]; rfl
  have emin : (if Int32.ofNat 6 < nI d + 1 then Int32.ofNat 6 else nI d + 1) = nI (hmn d) := by
    rw [nI_1]
    unfold hmn
    by_cases q : d = 6
    · rw [if_pos q, q]; rfl
    · rw [if_neg q, if_neg (show ¬ Int32.ofNat 6 < nI (d + 1) from nI_nlt (by omega) (by omega))]
  simp only [eX0_remember_42, eX0_remember_43, eX0_remember_46, eX0_remember_47, eX0_remember_48, eX0_remember_49, eX0_remember_52, eX0_remember_53, eX0_remember_54, eX0_remember_55, eX0_remember_56, eX0_remember_57, Option.toList_some, Option.toList_none, List.cons_append, List.nil_append, gcat_nil, gcat_cons, cat_int, cat_ref, cat_null, cat_ret, cat_long, grc_ref, narZ0, narZ1, true_and, and_true, decide_true, Nat.reduceAdd, Nat.reduceLeDiff, if_true, if_false, eq_self, gfld_in, gobj_in, garr_in, garq_in, glen_in, gisO_in, ex_some, List.getElem?_cons_succ, List.getElem?_cons_zero, List.length_cons, List.length_nil, List.set_cons_succ, List.set_cons_zero, Nat.reduceLT, va_up_eq, va_up_nl, g5, g6, vx, nI_clamp (show nx < 2 ^ 31 by omega), hg, va_rf_some, gp, hcf, hip, nI_1]
  by_cases q : nx < 5
  · have cq : 0 ≤ nI (nx + 1) ∧ nI (nx + 1) < 6 := ⟨nI_pos' (by omega), nI_lt (b := 6) (by omega) (by omega)⟩
    have eh : hnx nx = nx + 1 := if_pos q
    rw [eh] at hQ
    simp only [eX0_remember_60, eX0_remember_63, eX0_remember_64, eX0_remember_65, eX0_remember_66, eX0_remember_70, eX0_remember_73, eX0_remember_74, eX0_remember_75, eX0_remember_78, eX0_remember_79, eX0_remember_80, eX0_remember_81, eX0_remember_84, eX0_remember_85, eX0_remember_88, eX0_remember_91, Option.toList_some, Option.toList_none, List.cons_append, List.nil_append, gcat_nil, gcat_cons, cat_int, cat_ref, cat_null, cat_ret, cat_long, grc_ref, narZ0, narZ1, true_and, and_true, decide_true, Nat.reduceAdd, Nat.reduceLeDiff, if_true, if_false, eq_self, gfld_in, gobj_in, garr_in, garq_in, glen_in, gisO_in, ex_some, List.getElem?_cons_succ, List.getElem?_cons_zero, List.length_cons, List.length_nil, List.set_cons_succ, List.set_cons_zero, Nat.reduceLT, va_up_eq, va_up_nl, gb_t cq, h10, g5, nI_1, u5, g5', g6', va_up_up]
    simp only [nI_1] at emin
    simp only [emin]
    exact hQ
  · have cq : ¬ (0 ≤ nI (nx + 1) ∧ nI (nx + 1) < 6) := fun z => absurd z.2 (nI_nlt (b := 6) (by omega) (by omega))
    have eh : hnx nx = 0 := if_neg q
    rw [eh] at hQ
    simp only [eX0_remember_60, eX0_remember_69, eX0_remember_70, eX0_remember_73, eX0_remember_74, eX0_remember_75, eX0_remember_78, eX0_remember_79, eX0_remember_80, eX0_remember_81, eX0_remember_84, eX0_remember_85, eX0_remember_88, eX0_remember_91, Option.toList_some, Option.toList_none, List.cons_append, List.nil_append, gcat_nil, gcat_cons, cat_int, cat_ref, cat_null, cat_ret, cat_long, grc_ref, narZ0, narZ1, true_and, and_true, decide_true, Nat.reduceAdd, Nat.reduceLeDiff, if_true, if_false, eq_self, gfld_in, gobj_in, garr_in, garq_in, glen_in, gisO_in, ex_some, List.getElem?_cons_succ, List.getElem?_cons_zero, List.length_cons, List.length_nil, List.set_cons_succ, List.set_cons_zero, Nat.reduceLT, va_up_eq, va_up_nl, gb_f cq, g5, nI_1, u5, g5', g6', va_up_up]
    simp only [nI_1] at emin
    simp only [emin]
    exact hQ
theorem c_remember (hn : 36 ≤ n) (h5 : w 5 = (.inr (0, [.ref 6, .int (nI nx), .int (nI d)]) : gE)) (h6 : w 6 = (.inl ((.object "CoinTrack$Track"), 6, .inr (.inr (.inr (.inr (rg))))) : gE)) (ht : isTr w 1 kr ts co kc tc rm jm) (hx : nx < 6) (hd : d ≤ 6) (hs : ∀ p, rg nx = some p → 36 ≤ p ∧ ∃ kr ts co kc tc rm jm, isTr w p kr ts co kc tc rm jm) (hQ : ∀ p n' k' kr0 ts0 co0, (rg nx = some p ∧ n' = n ∧ k' = k) ∨ (rg nx = none ∧ p = n ∧ n' = n + 4 ∧ k' = k + 62) → Q none n' k' (sTr (va_up (va_up w 6 (.inl ((.object "CoinTrack$Track"), 6, .inr (.inr (.inr (.inr (va_up rg nx (some p)))))) : gE)) 5 (.inr (0, [.ref 6, .int (nI (hnx nx)), .int (nI (hmn d))]) : gE)) p (gcp kr kr0 30) (gcp ts ts0 18) (gcp co co0 7) kc tc rm jm)) : gEv (gT X) 10 0 [.ref 5, .ref 1, .null] [] n k w Q := by
  have vx : vp_in (nI nx) 6 := vp_in_nI hx (by omega)
  have h10 : ¬ (1 : Int32) = 0 := by decide
  have cx : 0 ≤ nI nx ∧ nI nx < 6 := ⟨nI_pos' (by omega), nI_lt (b := 6) hx (by omega)⟩
  simp only [eX0_remember_0, eX0_remember_1, eX0_remember_2, eX0_remember_5, eX0_remember_8, eX0_remember_11, eX0_remember_12, eX0_remember_15, eX0_remember_19, eX0_remember_19b, eX0_remember_19c, eX0_remember_19d, eX0_remember_20, eX0_remember_21, eX0_remember_24, eX0_remember_25, Option.toList_some, Option.toList_none, List.cons_append, List.nil_append, gcat_nil, gcat_cons, cat_int, cat_ref, cat_null, cat_ret, cat_long, grc_ref, narZ0, narZ1, true_and, and_true, decide_true, Nat.reduceAdd, Nat.reduceLeDiff, if_true, if_false, eq_self, gfld_in, gobj_in, garr_in, garq_in, glen_in, gisO_in, ex_some, List.getElem?_cons_succ, List.getElem?_cons_zero, List.length_cons, List.length_nil, List.set_cons_succ, List.set_cons_zero, Nat.reduceLT, va_up_eq, va_up_nl, h5, h6, c_isPlace h5 h6, gb_t cx, h10, vx, nI_clamp (show nx < 2 ^ 31 by omega)]
  cases hg : rg nx with
  | some p =>
    obtain ⟨hp, kr0, ts0, co0, kc0, tc0, rm0, jm0, hi⟩ := hs p hg
    simp only [va_rf_some, eX0_remember_26, eX0_remember_26b, Option.toList_some, Option.toList_none, List.cons_append, List.nil_append, gcat_nil, gcat_cons, cat_int, cat_ref, cat_null, cat_ret, cat_long, grc_ref, narZ0, narZ1, true_and, and_true, decide_true, Nat.reduceAdd, Nat.reduceLeDiff, if_true, if_false, eq_self, gfld_in, gobj_in, garr_in, garq_in, glen_in, gisO_in, ex_some, List.getElem?_cons_succ, List.getElem?_cons_zero, List.length_cons, List.length_nil, List.set_cons_succ, List.set_cons_zero, Nat.reduceLT, va_up_eq, va_up_nl]
    have := hQ p n k kr0 ts0 co0 (Or.inl ⟨hg, rfl, rfl⟩)
    rw [upo_self hg, up_self h6] at this
    have h := c_remTail (X := X) p hp h5 h6 ht hx hd hg this (kc0 := kc0) (tc0 := tc0) (rm0 := rm0) (jm0 := jm0)
    rw [sTr_self hi] at h
    exact h
  | none =>
    have h := hQ n (n + 4) (k + 62) (fun _ => 0) (fun _ => 0) (fun _ => 0) (Or.inr ⟨hg, rfl, rfl, rfl⟩)
    have r := c_remTail (X := X) (n := n + 4) (k := k + 62) (w := va_up w 6 (.inl ((.object "CoinTrack$Track"), 6, .inr (.inr (.inr (.inr (va_up rg nx (some n)))))) : gE)) (rg := va_up rg nx (some n)) (kc0 := 0) (tc0 := 0) (rm0 := 20) (jm0 := -9) n hn (by rw [up_lit (by omega), h5]) (by simp [va_up]) (isTr_up ht (by omega)) hx hd (by simp [va_up]) h
    have w5 : va_up w n (.inr (3, [.null, .null, .null, .int 0, .int 0, .int 0, .int 0])) 5 = (.inr (0, [.ref 6, .int (nI nx), .int (nI d)]) : gE) := by rw [up_lit (by omega), h5]
    have s5 : sTr w n (fun _ => 0) (fun _ => 0) (fun _ => 0) 0 0 20 (-9) 5 = (.inr (0, [.ref 6, .int (nI nx), .int (nI d)]) : gE) := by rw [sTr_ne (by omega), h5]
    have s6 : sTr w n (fun _ => 0) (fun _ => 0) (fun _ => 0) 0 0 20 (-9) 6 = (.inl ((.object "CoinTrack$Track"), 6, .inr (.inr (.inr (.inr (rg))))) : gE) := by rw [sTr_ne (by omega), h6]
    have hin : ∀ {k : Nat} {Q : Option Value → Nat → Nat → gH → Prop}, gEv (gT X) 42 0 [.ref n] [] (n + 1) k (va_up w n (.inr (3, [.null, .null, .null, .int 0, .int 0, .int 0, .int 0]))) Q ↔ Q none (n + 4) (k + 55) (sTr w n (fun _ => 0) (fun _ => 0) (fun _ => 0) 0 0 20 (-9)) := by
      intro k Q
      rw [c_TrackInit (by simp [va_up]), sTr_in (by omega)]
    have u6 : ∀ {e : gE}, va_up (sTr w n (fun _ => 0) (fun _ => 0) (fun _ => 0) 0 0 20 (-9)) 6 e = sTr (va_up w 6 e) n (fun _ => 0) (fun _ => 0) (fun _ => 0) 0 0 20 (-9) := sTr_up (by omega)
    have ge : gobj 3 (sTr w n (fun _ => 0) (fun _ => 0) (fun _ => 0) 0 0 20 (-9) n) = some [.ref (n + 1), .ref (n + 2), .ref (n + 3), .int 0, .int 0, .int 20, .int (-9)] := by rw [sTr_0]; rfl
    simp only [va_rf_none, eX0_remember_26, eX0_remember_26b, eX0_remember_29, eX0_remember_30, eX0_remember_33, eX0_remember_34, eX0_remember_37, eX0_remember_37b, eX0_remember_38, eX0_remember_41, Option.toList_some, Option.toList_none, List.cons_append, List.nil_append, gcat_nil, gcat_cons, cat_int, cat_ref, cat_null, cat_ret, cat_long, grc_ref, narZ0, narZ1, true_and, and_true, decide_true, Nat.reduceAdd, Nat.reduceLeDiff, if_true, if_false, eq_self, gfld_in, gobj_in, garr_in, garq_in, glen_in, gisO_in, ex_some, List.getElem?_cons_succ, List.getElem?_cons_zero, List.length_cons, List.length_nil, List.set_cons_succ, List.set_cons_zero, Nat.reduceLT, va_up_eq, va_up_nl, h5, h6, gisO_any, hin, Nat.add_assoc, ge, s6, vx, nI_clamp (show nx < 2 ^ 31 by omega), u6, exists_and_left, exists_eq_left', Option.some.injEq]
    exact r
end HB
