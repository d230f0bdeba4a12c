/-! THE FIRST OBJECTS -/
section NA
variable {X : gX} {k : Nat} {w : gH} {Q : Option Value → Nat → Nat → gH → Prop}
theorem zr (n : Nat) (h : n ≤ 1000) : (0 : Int32) ≤ nI n ∧ nI n ≤ 1000 := ⟨nI_pos' (by omega), nI_le (b := 1000) h (by omega)⟩
theorem i_hist (h : w 5 = .inr (0, [.null, .int 0, .int 0])) (hQ : ∀ w', w' 5 = (.inr (0, [.ref 6, .int (0), .int (0)]) : gE) → w' 6 = (.inl ((.object "CoinTrack$Track"), 6, .inr (.inr (.inr (.inr (fun _ => none))))) : gE) → (∀ a, a ≠ 5 → a ≠ 6 → w' a = w a) → Q none 7 (k + 6) w') : gEv (gT X) 9 0 [.ref 5] [] 6 k w Q := by
  have z : (0 : Int32) ≤ 6 ∧ (6 : Int32) ≤ 1000 := by decide
  have y : (6 : Int32).toNatClampNeg = 6 := by decide
  have u : ∀ {w : gH} {e : gE}, va_up w 6 e 5 = w 5 := by intros; exact up_lit (by omega)
  simp only [eX0_init_0, eX0_init_1, eX0_init_4, eX0_init_5, eX0_init_7, eX0_init_10, eX0_init_13, eX0_init_14, eX0_init_15, eX0_init_18, eX0_init_19, eX0_init_20, eX0_init_23, Option.toList_some, Option.toList_none, List.cons_append, List.nil_append, gcat_nil, gcat_cons, cat_int, cat_ref, cat_null, cat_ret, cat_long, grc_ref, narZ0, narZ1, true_and, and_true, decide_true, Nat.reduceAdd, Nat.reduceLeDiff, if_true, if_false, eq_self, gfld_in, gobj_in, garr_in, garq_in, glen_in, gisO_in, ex_some, List.getElem?_cons_succ, List.getElem?_cons_zero, List.length_cons, List.length_nil, List.set_cons_succ, List.set_cons_zero, Nat.reduceLT, va_up_eq, va_up_nl, h, gisO_any, z, y, u, va_up_up]
  exact hQ _ (by simp [va_up]) (by simp [va_up]) (fun a h1 h2 => by simp [va_up, h1, h2])
theorem i_plan (h : w 15 = .inr (1, [.null, .null, .int 0, .null, .null])) (hQ : ∀ w', w' 15 = (.inr (1, [.ref 16, .ref 17, .int (0), .ref 18, .ref 19]) : gE) → w' 16 = (.inl (.int, 60, .inl (fun _ => 0)) : gE) → w' 17 = (.inl (.int, 60, .inl (fun _ => 0)) : gE) → w' 18 = (.inl (.int, 64, .inl (fun _ => 0)) : gE) → w' 19 = (.inl (.int, 64, .inl (fun _ => 0)) : gE) → (∀ a, a < 15 → w' a = w a) → Q none 20 (k + 248) w') : gEv (gT X) 13 0 [.ref 15] [] 16 k w Q := by
  have z1 : (0 : Int32) ≤ 60 ∧ (60 : Int32) ≤ 1000 := by decide
  have y1 : (60 : Int32).toNatClampNeg = 60 := by decide
  have z2 : (0 : Int32) ≤ 64 ∧ (64 : Int32) ≤ 1000 := by decide
  have y2 : (64 : Int32).toNatClampNeg = 64 := by decide
  have u6 : ∀ {w : gH} {e : gE}, va_up w 16 e 15 = w 15 := by intros; exact up_lit (by omega)
  have u7 : ∀ {w : gH} {e : gE}, va_up w 17 e 15 = w 15 := by intros; exact up_lit (by omega)
  have u8 : ∀ {w : gH} {e : gE}, va_up w 18 e 15 = w 15 := by intros; exact up_lit (by omega)
  have u9 : ∀ {w : gH} {e : gE}, va_up w 19 e 15 = w 15 := by intros; exact up_lit (by omega)
  simp only [eX1_init_0, eX1_init_1, eX1_init_4, eX1_init_5, eX1_init_7, eX1_init_9, eX1_init_12, eX1_init_13, eX1_init_15, eX1_init_17, eX1_init_20, eX1_init_21, eX1_init_22, eX1_init_25, eX1_init_26, eX1_init_28, eX1_init_30, eX1_init_33, eX1_init_34, eX1_init_36, eX1_init_38, eX1_init_41, Option.toList_some, Option.toList_none, List.cons_append, List.nil_append, gcat_nil, gcat_cons, cat_int, cat_ref, cat_null, cat_ret, cat_long, grc_ref, narZ0, narZ1, true_and, and_true, decide_true, Nat.reduceAdd, Nat.reduceLeDiff, if_true, if_false, eq_self, gfld_in, gobj_in, garr_in, garq_in, glen_in, gisO_in, ex_some, List.getElem?_cons_succ, List.getElem?_cons_zero, List.length_cons, List.length_nil, List.set_cons_succ, List.set_cons_zero, Nat.reduceLT, va_up_eq, va_up_nl, h, gisO_any, z1, y1, z2, y2, u6, u7, u8, u9, va_up_up, Nat.add_assoc]
  refine hQ _ ?_ ?_ ?_ ?_ ?_ (fun a ha => ?_)
  · simp [va_up]
  · simp [va_up]
  · simp [va_up]
  · simp [va_up]
  · simp [va_up]
  · have n5 : ¬ a = 15 := by omega
    have n6 : ¬ a = 16 := by omega
    have n7 : ¬ a = 17 := by omega
    have n8 : ¬ a = 18 := by omega
    have n9 : ¬ a = 19 := by omega
    simp [va_up, n5, n6, n7, n8, n9]
theorem i_wit (h : w 20 = .inr (4, [.null, .null, .null, .int 0, .int 0])) (hQ : ∀ w', w' 20 = (.inr (4, [.ref 21, .ref 22, .ref 23, .int (0), .int (0)]) : gE) → w' 21 = (.inl (.int, 18, .inl (fun _ => 0)) : gE) → w' 22 = (.inl (.int, 13, .inl (fun _ => 0)) : gE) → w' 23 = (.inl (.int, 7, .inl (fun _ => 0)) : gE) → (∀ a, a < 20 → w' a = w a) → Q none 24 (k + 38) w') : gEv (gT X) 76 0 [.ref 20] [] 21 k w Q := by
  have z1 : (0 : Int32) ≤ 18 ∧ (18 : Int32) ≤ 1000 := by decide
  have y1 : (18 : Int32).toNatClampNeg = 18 := by decide
  have z2 : (0 : Int32) ≤ 13 ∧ (13 : Int32) ≤ 1000 := by decide
  have y2 : (13 : Int32).toNatClampNeg = 13 := by decide
  have z3 : (0 : Int32) ≤ 7 ∧ (7 : Int32) ≤ 1000 := by decide
  have y3 : (7 : Int32).toNatClampNeg = 7 := by decide
  have u6 : ∀ {w : gH} {e : gE}, va_up w 21 e 20 = w 20 := by intros; exact up_lit (by omega)
  have u7 : ∀ {w : gH} {e : gE}, va_up w 22 e 20 = w 20 := by intros; exact up_lit (by omega)
  have u8 : ∀ {w : gH} {e : gE}, va_up w 23 e 20 = w 20 := by intros; exact up_lit (by omega)
  simp only [eX4_init_0, eX4_init_1, eX4_init_4, eX4_init_5, eX4_init_7, eX4_init_9, eX4_init_12, eX4_init_13, eX4_init_15, eX4_init_17, eX4_init_20, eX4_init_21, eX4_init_23, eX4_init_25, eX4_init_28, eX4_init_29, eX4_init_30, eX4_init_33, eX4_init_34, eX4_init_35, eX4_init_38, Option.toList_some, Option.toList_none, List.cons_append, List.nil_append, gcat_nil, gcat_cons, cat_int, cat_ref, cat_null, cat_ret, cat_long, grc_ref, narZ0, narZ1, true_and, and_true, decide_true, Nat.reduceAdd, Nat.reduceLeDiff, if_true, if_false, eq_self, gfld_in, gobj_in, garr_in, garq_in, glen_in, gisO_in, ex_some, List.getElem?_cons_succ, List.getElem?_cons_zero, List.length_cons, List.length_nil, List.set_cons_succ, List.set_cons_zero, Nat.reduceLT, va_up_eq, va_up_nl, h, gisO_any, z1, y1, z2, y2, z3, y3, u6, u7, u8, va_up_up, Nat.add_assoc]
  refine hQ _ ?_ ?_ ?_ ?_ (fun a ha => ?_)
  · simp [va_up]
  · simp [va_up]
  · simp [va_up]
  · simp [va_up]
  · have n5 : ¬ a = 20 := by omega
    have n6 : ¬ a = 21 := by omega
    have n7 : ¬ a = 22 := by omega
    have n8 : ¬ a = 23 := by omega
    simp [va_up, n5, n6, n7, n8]
theorem i_tell (h : w 8 = .inr (2, [.null, .null, .null, .int 0, .int 0, .int 0, .int 0])) (hQ : ∀ w', w' 8 = (.inr (2, [.ref 9, .ref 10, .ref 11, .int (0), .int (0), .int (0), .int (0)]) : gE) → w' 9 = (.inl (.int, 150, .inl (fun _ => 0)) : gE) → w' 10 = (.inl (.int, 5, .inl (fun _ => 0)) : gE) → shT w' 11 → (∀ a, a < 8 → w' a = w a) → Q none 15 (k + 217) w') : gEv (gT X) 26 0 [.ref 8] [] 9 k w Q := by
  have z1 : (0 : Int32) ≤ 150 ∧ (150 : Int32) ≤ 1000 := by decide
  have y1 : (150 : Int32).toNatClampNeg = 150 := by decide
  have z2 : (0 : Int32) ≤ 5 ∧ (5 : Int32) ≤ 1000 := by decide
  have y2 : (5 : Int32).toNatClampNeg = 5 := by decide
  have u9 : ∀ {w : gH} {e : gE}, va_up w 9 e 8 = w 8 := by intros; exact up_lit (by omega)
  have u10 : ∀ {w : gH} {e : gE}, va_up w 10 e 8 = w 8 := by intros; exact up_lit (by omega)
  have tr : ∀ {k : Nat} {w : gH} {Q : Option Value → Nat → Nat → gH → Prop}, gEv (gT X) 42 0 [.ref 11] [] 12 k (va_up w 11 (.inr (3, [.null, .null, .null, .int 0, .int 0, .int 0, .int 0]))) Q ↔ Q none 15 (k + 55) (sTr w 11 (fun _ => 0) (fun _ => 0) (fun _ => 0) 0 0 20 (-9)) := by
    intro k w Q
    have := @c_TrackInit X k (va_up w 11 (.inr (3, [.null, .null, .null, .int 0, .int 0, .int 0, .int 0]))) Q 11 (by simp [va_up])
    rw [sTr_in (by omega)] at this
    exact this
  have s8 : ∀ {w : gH}, sTr w 11 (fun _ => 0) (fun _ => 0) (fun _ => 0) 0 0 20 (-9) 8 = w 8 := by intros; exact sTr_ne (by omega)
  have p8 : ∀ {w : gH} {e : gE}, va_up (sTr w 11 (fun _ => 0) (fun _ => 0) (fun _ => 0) 0 0 20 (-9)) 8 e = sTr (va_up w 8 e) 11 (fun _ => 0) (fun _ => 0) (fun _ => 0) 0 0 20 (-9) := by intros; exact sTr_up (by omega)
  simp only [eX2_init_0, eX2_init_1, eX2_init_4, eX2_init_5, eX2_init_8, eX2_init_10, eX2_init_13, eX2_init_14, eX2_init_15, eX2_init_17, eX2_init_20, eX2_init_21, eX2_init_24, eX2_init_24b, eX2_init_25, eX2_init_28, eX2_init_31, eX2_init_32, eX2_init_33, eX2_init_36, eX2_init_37, eX2_init_38, eX2_init_41, eX2_init_42, eX2_init_43, eX2_init_46, eX2_init_47, eX2_init_48, eX2_init_51, Option.toList_some, Option.toList_none, List.cons_append, List.nil_append, gcat_nil, gcat_cons, cat_int, cat_ref, cat_null, cat_ret, cat_long, grc_ref, narZ0, narZ1, true_and, and_true, decide_true, Nat.reduceAdd, Nat.reduceLeDiff, if_true, if_false, eq_self, gfld_in, gobj_in, garr_in, garq_in, glen_in, gisO_in, ex_some, List.getElem?_cons_succ, List.getElem?_cons_zero, List.length_cons, List.length_nil, List.set_cons_succ, List.set_cons_zero, Nat.reduceLT, va_up_eq, va_up_nl, h, gisO_any, z1, y1, z2, y2, u9, u10, tr, s8, p8, va_up_up, Nat.add_assoc]
  refine hQ _ ?_ ?_ ?_ ⟨_, _, _, _, _, _, _, sTr_is⟩ (fun a ha => ?_)
  · rw [sTr_ne (by omega)]; simp [va_up]
  · rw [sTr_ne (by omega)]; simp [va_up]
  · rw [sTr_ne (by omega)]; simp [va_up]
  · have n5 : ¬ a = 8 := by omega
    have n6 : ¬ a = 9 := by omega
    have n7 : ¬ a = 10 := by omega
    rw [sTr_ne (by omega)]
    simp [va_up, n5, n6, n7]
end NA
/-- what stands when the class's first object is made -/
def iC (w : gH) : Prop := w 0 = (.inr (5, [.ref 1, .ref 5, .ref 7, .ref 8, .ref 15, .ref 20]) : gE) ∧ isTr w 1 (fun _ => 0) (fun _ => 0) (fun _ => 0) 0 0 20 (-9) ∧ w 5 = (.inr (0, [.ref 6, .int (0), .int (0)]) : gE) ∧ w 6 = (.inl ((.object "CoinTrack$Track"), 6, .inr (.inr (.inr (.inr (fun _ => none))))) : gE) ∧ w 7 = (.inl ((.object "CoinTrack$Track"), 2, .inr (.inr (.inr (.inr (fun _ => none))))) : gE) ∧ w 8 = (.inr (2, [.ref 9, .ref 10, .ref 11, .int (0), .int (0), .int (0), .int (0)]) : gE) ∧ w 9 = (.inl (.int, 150, .inl (fun _ => 0)) : gE) ∧ w 10 = (.inl (.int, 5, .inl (fun _ => 0)) : gE) ∧ shT w 11 ∧ rRP w ∧ w 20 = (.inr (4, [.ref 21, .ref 22, .ref 23, .int (0), .int (0)]) : gE) ∧ w 21 = (.inl (.int, 18, .inl (fun _ => 0)) : gE) ∧ w 22 = (.inl (.int, 13, .inl (fun _ => 0)) : gE) ∧ w 23 = (.inl (.int, 7, .inl (fun _ => 0)) : gE)
section NB
variable {X : gX} {k : Nat} {w : gH} {Q : Option Value → Nat → Nat → gH → Prop}
theorem i_class (h0 : w 0 = .inr (5, [.null, .null, .null, .null, .null, .null])) (hQ : ∀ w', iC w' → Q none 24 (k + 593) w') : gEv (gT X) 84 0 [.ref 0] [] 1 k w Q := by
  have tr : ∀ {k : Nat} {w : gH} {Q : Option Value → Nat → Nat → gH → Prop}, gEv (gT X) 42 0 [.ref 1] [] 2 k (va_up w 1 (.inr (3, [.null, .null, .null, .int 0, .int 0, .int 0, .int 0]))) Q ↔ Q none 5 (k + 55) (sTr w 1 (fun _ => 0) (fun _ => 0) (fun _ => 0) 0 0 20 (-9)) := by
    intro k w Q
    have := @c_TrackInit X k (va_up w 1 (.inr (3, [.null, .null, .null, .int 0, .int 0, .int 0, .int 0]))) Q 1 (by simp [va_up])
    rw [sTr_in (by omega)] at this
    exact this
  have s0 : ∀ {w : gH}, sTr w 1 (fun _ => 0) (fun _ => 0) (fun _ => 0) 0 0 20 (-9) 0 = w 0 := by intros; exact sTr_ne (by omega)
  have p0 : ∀ {w : gH} {e : gE}, va_up (sTr w 1 (fun _ => 0) (fun _ => 0) (fun _ => 0) 0 0 20 (-9)) 0 e = sTr (va_up w 0 e) 1 (fun _ => 0) (fun _ => 0) (fun _ => 0) 0 0 20 (-9) := by intros; exact sTr_up (by omega)
  have z1 : (0 : Int32) ≤ 2 ∧ (2 : Int32) ≤ 1000 := by decide
  have y1 : (2 : Int32).toNatClampNeg = 2 := by decide
  simp only [eX5_init_0, eX5_init_1, eX5_init_4, eX5_init_5, eX5_init_8, eX5_init_8b, eX5_init_9, eX5_init_12, eX5_init_15, eX5_init_16, eX5_init_19, eX5_init_19b, eX5_init_20, Option.toList_some, Option.toList_none, List.cons_append, List.nil_append, gcat_nil, gcat_cons, cat_int, cat_ref, cat_null, cat_ret, cat_long, grc_ref, narZ0, narZ1, true_and, and_true, decide_true, Nat.reduceAdd, Nat.reduceLeDiff, if_true, if_false, eq_self, gfld_in, gobj_in, garr_in, garq_in, glen_in, gisO_in, ex_some, List.getElem?_cons_succ, List.getElem?_cons_zero, List.length_cons, List.length_nil, List.set_cons_succ, List.set_cons_zero, Nat.reduceLT, va_up_eq, va_up_nl, h0, gisO_any, tr, s0, p0, Nat.add_assoc]
  refine i_hist (by simp [va_up]) ?_
  intro wA a5 a6 aF
  have aT : isTr wA 1 (fun _ => 0) (fun _ => 0) (fun _ => 0) 0 0 20 (-9) := isTr_fr sTr_is (fun a q1 q2 => by rw [aF a (by omega) (by omega), up_lit (by omega)])
  have a0 : wA 0 = .inr (5, [.ref 1, .null, .null, .null, .null, .null]) := by rw [aF 0 (by omega) (by omega), up_lit (by omega), sTr_ne (by omega)]; simp [va_up]
  have v7 : ∀ {w : gH} {e : gE}, va_up w 7 e 0 = w 0 := by intros; exact up_lit (by omega)
  have v8 : ∀ {w : gH} {e : gE}, va_up w 8 e 0 = w 0 := by intros; exact up_lit (by omega)
  clear aF
  simp only [eX5_init_23, eX5_init_26, eX5_init_27, eX5_init_28, eX5_init_31, eX5_init_34, eX5_init_35, eX5_init_38, eX5_init_38b, eX5_init_39, Option.toList_some, Option.toList_none, List.cons_append, List.nil_append, gcat_nil, gcat_cons, cat_int, cat_ref, cat_null, cat_ret, cat_long, grc_ref, narZ0, narZ1, true_and, and_true, decide_true, Nat.reduceAdd, Nat.reduceLeDiff, if_true, if_false, eq_self, gfld_in, gobj_in, garr_in, garq_in, glen_in, gisO_in, ex_some, List.getElem?_cons_succ, List.getElem?_cons_zero, List.length_cons, List.length_nil, List.set_cons_succ, List.set_cons_zero, Nat.reduceLT, va_up_eq, va_up_nl, a0, gisO_any, z1, y1, v7, va_up_up, Nat.add_assoc]
  refine i_tell (by simp [va_up]) ?_
  intro wB b8 b9 b10 b11 bF
  have bT : isTr wB 1 (fun _ => 0) (fun _ => 0) (fun _ => 0) 0 0 20 (-9) := isTr_fr aT (fun a q1 q2 => by rw [bF a (by omega), up_lit (by omega), up_lit (by omega), up_lit (by omega), up_lit (by omega)])
  have b0 : wB 0 = .inr (5, [.ref 1, .ref 5, .ref 7, .null, .null, .null]) := by rw [bF 0 (by omega)]; simp [va_up]
  have b5 : wB 5 = (.inr (0, [.ref 6, .int (0), .int (0)]) : gE) := by rw [bF 5 (by omega), ← a5]; simp [va_up]
  have b6 : wB 6 = (.inl ((.object "CoinTrack$Track"), 6, .inr (.inr (.inr (.inr (fun _ => none))))) : gE) := by rw [bF 6 (by omega), ← a6]; simp [va_up]
  have b7 : wB 7 = (.inl ((.object "CoinTrack$Track"), 2, .inr (.inr (.inr (.inr (fun _ => none))))) : gE) := by rw [bF 7 (by omega)]; simp [va_up]
  clear bF aT a0 a5 a6
  simp only [eX5_init_42, eX5_init_45, eX5_init_46, eX5_init_49, eX5_init_49b, eX5_init_50, Option.toList_some, Option.toList_none, List.cons_append, List.nil_append, gcat_nil, gcat_cons, cat_int, cat_ref, cat_null, cat_ret, cat_long, grc_ref, narZ0, narZ1, true_and, and_true, decide_true, Nat.reduceAdd, Nat.reduceLeDiff, if_true, if_false, eq_self, gfld_in, gobj_in, garr_in, garq_in, glen_in, gisO_in, ex_some, List.getElem?_cons_succ, List.getElem?_cons_zero, List.length_cons, List.length_nil, List.set_cons_succ, List.set_cons_zero, Nat.reduceLT, va_up_eq, va_up_nl, b0, gisO_any, Nat.add_assoc]
  refine i_plan (by simp [va_up]) ?_
  intro wC c15 c16 c17 c18 c19 cF
  have cE : ∀ a, a < 15 → a ≠ 0 → wC a = wB a := fun a h1 h2 => by rw [cF a h1, up_lit (by omega), up_lit h2]
  have c0 : wC 0 = .inr (5, [.ref 1, .ref 5, .ref 7, .ref 8, .null, .null]) := by rw [cF 0 (by omega)]; simp [va_up]
  clear cF
  simp only [eX5_init_53, eX5_init_56, eX5_init_57, eX5_init_60, eX5_init_60b, eX5_init_61, Option.toList_some, Option.toList_none, List.cons_append, List.nil_append, gcat_nil, gcat_cons, cat_int, cat_ref, cat_null, cat_ret, cat_long, grc_ref, narZ0, narZ1, true_and, and_true, decide_true, Nat.reduceAdd, Nat.reduceLeDiff, if_true, if_false, eq_self, gfld_in, gobj_in, garr_in, garq_in, glen_in, gisO_in, ex_some, List.getElem?_cons_succ, List.getElem?_cons_zero, List.length_cons, List.length_nil, List.set_cons_succ, List.set_cons_zero, Nat.reduceLT, va_up_eq, va_up_nl, c0, gisO_any, Nat.add_assoc]
  refine i_wit (by simp [va_up]) ?_
  intro wD d20 d21 d22 d23 dF
  have dE : ∀ a, a < 20 → a ≠ 0 → wD a = wC a := fun a h1 h2 => by rw [dF a h1, up_lit (by omega), up_lit h2]
  have d0 : wD 0 = .inr (5, [.ref 1, .ref 5, .ref 7, .ref 8, .ref 15, .null]) := by rw [dF 0 (by omega)]; simp [va_up]
  clear dF
  simp only [eX5_init_64, eX5_init_67, Option.toList_some, Option.toList_none, List.cons_append, List.nil_append, gcat_nil, gcat_cons, cat_int, cat_ref, cat_null, cat_ret, cat_long, grc_ref, narZ0, narZ1, true_and, and_true, decide_true, Nat.reduceAdd, Nat.reduceLeDiff, if_true, if_false, eq_self, gfld_in, gobj_in, garr_in, garq_in, glen_in, gisO_in, ex_some, List.getElem?_cons_succ, List.getElem?_cons_zero, List.length_cons, List.length_nil, List.set_cons_succ, List.set_cons_zero, Nat.reduceLT, va_up_eq, va_up_nl, d0, Nat.add_assoc]
  have eE : ∀ a, a < 15 → a ≠ 0 → va_up wD 0 (.inr (5, [.ref 1, .ref 5, .ref 7, .ref 8, .ref 15, .ref 20]) : gE) a = wB a := fun a h1 h2 => by rw [up_lit h2, dE a (by omega) h2, cE a h1 h2]
  have eD : ∀ a, 15 ≤ a → a < 20 → va_up wD 0 (.inr (5, [.ref 1, .ref 5, .ref 7, .ref 8, .ref 15, .ref 20]) : gE) a = wC a := fun a h1 h2 => by rw [up_lit (by omega), dE a (by omega) (by omega)]
  refine hQ _ ⟨by simp [va_up], isTr_fr bT (fun a q1 q2 => eE a (by omega) (by omega)), by rw [eE 5 (by omega) (by omega), b5], by rw [eE 6 (by omega) (by omega), b6], by rw [eE 7 (by omega) (by omega), b7], by rw [eE 8 (by omega) (by omega), b8], by rw [eE 9 (by omega) (by omega), b9], by rw [eE 10 (by omega) (by omega), b10], shT_fr b11 (fun a q1 q2 => eE a (by omega) (by omega)), ⟨_, _, _, _, _, by rw [eD 15 (by omega) (by omega), c15], by rw [eD 16 (by omega) (by omega), c16], by rw [eD 17 (by omega) (by omega), c17], by rw [eD 18 (by omega) (by omega), c18], by rw [eD 19 (by omega) (by omega), c19]⟩, by rw [up_lit (by omega), d20], by rw [up_lit (by omega), d21], by rw [up_lit (by omega), d22], by rw [up_lit (by omega), d23]⟩
end NB
