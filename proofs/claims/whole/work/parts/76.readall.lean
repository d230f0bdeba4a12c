/-! THE TELLER: all is read -/
def dpk (dk : Nat → Int32) (q K : Nat) (vs : Nat → Nat) : Nat → Int32 := if q = 4 then upd (upd (upd (upd (upd dk (5 * K) (nI (vs 0))) (5 * K + 1) (nI (vs 1))) (5 * K + 2) (nI (vs 2))) (5 * K + 3) (nI (vs 3))) (5 * K + 4) (nI (vs 4)) else dk
def dpt (dt : Nat → Int32) (q N : Nat) (vs : Nat → Nat) : Nat → Int32 := if 5 ≤ q ∧ q ≤ 7 then upd (upd (upd dt (3 * N) (nI (q - 5))) (3 * N + 1) (nI (vs 0))) (3 * N + 2) (nI (vs 1)) else dt
def dpr (rm : Int32) (q : Nat) (vs : Nat → Nat) : Int32 := if q = 8 then nI (vs 0) else rm
section TG
variable {X : gX} {n k : Nat} {w : gH} {Q : Option Value → Nat → Nat → gH → Prop} {lt nb : Nat → Int32} {tl tt st en : Int32} {l : Nat} {tv : Nat → Nat} {dk dt dc : Nat → Int32} {kc tc rm jm : Int32} {K N : Nat}
theorem Vs_8 : sTr (tW w lt nb tl tt st en) 11 dk dt dc kc tc rm jm 8 = (.inr (2, [.ref 9, .ref 10, .ref 11, .int (tl), .int (tt), .int (st), .int (en)]) : gE) := by rw [sTr_ne (by omega)]; rfl
theorem Vs_10 : sTr (tW w lt nb tl tt st en) 11 dk dt dc kc tc rm jm 10 = (.inl (.int, 5, .inl (nb)) : gE) := by rw [sTr_ne (by omega)]; rfl
theorem Vs_11 : sTr (tW w lt nb tl tt st en) 11 dk dt dc kc tc rm jm 11 = .inr (3, [.ref 12, .ref 13, .ref 14, .int kc, .int tc, .int rm, .int jm]) := sTr_0
theorem Vs_p11 {a b c d : Int32} : va_up (sTr (tW w lt nb tl tt st en) 11 dk dt dc kc tc rm jm) 11 (.inr (3, [.ref 12, .ref 13, .ref 14, .int a, .int b, .int c, .int d])) = sTr (tW w lt nb tl tt st en) 11 dk dt dc a b c d := sTr_p0
theorem c_putItem {q : Nat} {vs : Nat → Nat} (hno : ¬ pno K N q) (hq8 : q ≤ 8) (hK : K ≤ 6) (hN : N ≤ 6) (hnb : ∀ z, z < pln q → nb z = nI (vs z)) : gEv (gT X) 36 0 [.ref 8, .int (tCi q)] [] n k (tW (sTr w 11 dk dt dc (nI K) (nI N) rm jm) lt nb tl tt st en) Q ↔ Q none n k (tW (sTr w 11 (dpk dk q K vs) (dpt dt q N vs) dc (nI (pK q K)) (nI (pN q N)) (dpr rm q vs) jm) lt nb tl tt st en) := by
  rw [tW_sTr, tW_sTr]
  have v0 : vp_in 0 5 := vp_in_nI (n := 0) (by omega) (by omega)
  have v1 : vp_in 1 5 := vp_in_nI (n := 1) (by omega) (by omega)
  have v2 : vp_in 2 5 := vp_in_nI (n := 2) (by omega) (by omega)
  have v3 : vp_in 3 5 := vp_in_nI (n := 3) (by omega) (by omega)
  have v4 : vp_in 4 5 := vp_in_nI (n := 4) (by omega) (by omega)
  have y0 : (0 : Int32).toNatClampNeg = 0 := by decide
  have y1 : (1 : Int32).toNatClampNeg = 1 := by decide
  have y2 : (2 : Int32).toNatClampNeg = 2 := by decide
  have y3 : (3 : Int32).toNatClampNeg = 3 := by decide
  have y4 : (4 : Int32).toNatClampNeg = 4 := by decide
  have hq4 : 4 ≤ q := by
    by_cases y : q < 4
    · exact absurd (Or.inl y) hno
    · omega
  have test : ∀ (q : Nat) (x : Int32), q = 5 ∨ q = 6 ∨ q = 7 → x = nI (q - 5) → ¬ x = 3 → ¬ x = 4 → N < 6 → nb 0 = nI (vs 0) → nb 1 = nI (vs 1) → (gEv (gT X) 36 0 [.ref 8, .int x] [] n k (sTr (tW w lt nb tl tt st en) 11 dk dt dc (nI K) (nI N) rm jm) Q ↔ Q none n k (sTr (tW w lt nb tl tt st en) 11 (dpk dk q K vs) (dpt dt q N vs) dc (nI (pK q K)) (nI (pN q N)) (dpr rm q vs) jm)) := by
    intro q x hq hx h3 h4 hN6 n0 n1
    have gO3 : ∀ {kc tc rm jm : Int32} {l : List Value}, gisO 3 (.inr (3, l) : gE) = true := by intros; rfl
    simp only [eX2_putItem_0, eX2_putItem_1, eX2_putItem_2, eX2_putItem_45, eX2_putItem_46, eX2_putItem_47, eX2_putItem_66, eX2_putItem_67, eX2_putItem_70, eX2_putItem_71, eX2_putItem_74, eX2_putItem_77, eX2_putItem_78, eX2_putItem_79, eX2_putItem_82, eX2_putItem_83, eX2_putItem_84, eX2_putItem_85, eX2_putItem_88, eX2_putItem_89, eX2_putItem_90, eX2_putItem_93, Option.toList_some, Option.toList_none, List.cons_append, List.nil_append, gcat_nil, gcat_cons, cat_int, cat_ref, cat_null, cat_ret, cat_long, grc_ref, narZ0, narZ1, true_and, and_true, decide_true, Nat.reduceAdd, Nat.reduceLeDiff, if_true, if_false, eq_self, gfld_in, gobj_in, garr_in, garq_in, glen_in, gisO_in, ex_some, List.getElem?_cons_succ, List.getElem?_cons_zero, List.length_cons, List.length_nil, List.set_cons_succ, List.set_cons_zero, Nat.reduceLT, va_up_eq, va_up_nl, h3, h4, not_false_eq_true, Vs_8, Vs_10, Vs_11, v0, v1, y0, y1, n0, n1, c_insertTest hN6 (Nat.le_refl N)]
    have e1 : dpk dk q K vs = dk := if_neg (by omega)
    have e2 : pK q K = K := if_neg (by omega)
    have e3 : pN q N = N + 1 := if_pos (by omega)
    have e4 : dpr rm q vs = rm := if_neg (by omega)
    have e5 : dpt dt q N vs = upd (upd (upd dt (3 * N) (nI (q - 5))) (3 * N + 1) (nI (vs 0))) (3 * N + 2) (nI (vs 1)) := if_pos (by omega)
    rw [e1, e2, e3, e4, e5, nI3, nIp0, nI_1, nIp2, gup_at (by omega) (by omega), gup_at (by omega) (by omega), gup_at (by omega) (by omega), Nat.sub_self, hx]
    rfl
  have hc : q = 4 ∨ q = 8 ∨ q = 5 ∨ q = 6 ∨ q = 7 := by omega
  have hN6 : 5 ≤ q → q ≤ 7 → N < 6 := by
    intro h5 h7
    have : ¬ N = 6 := fun y => hno (Or.inr (Or.inr ⟨h5, h7, y⟩))
    omega
  rcases hc with rfl | rfl | rfl | rfl | rfl
  · have hK6 : K < 6 := by
      have : ¬ K = 6 := fun y => hno (Or.inr (Or.inl ⟨rfl, y⟩))
      omega
    have e : tCi 4 = 3 := rfl
    have hp : pln 4 = 5 := rfl
    have n0 := hnb 0 (by omega)
    have n1 := hnb 1 (by omega)
    have n2 := hnb 2 (by omega)
    have n3 := hnb 3 (by omega)
    have n4 := hnb 4 (by omega)
    have hc6 : ¬ 6 ≤ nI K := nI_ge (b := 6) (by omega) (by omega)
    rw [e]
    simp only [eX2_putItem_0, eX2_putItem_1, eX2_putItem_2, eX2_putItem_5, eX2_putItem_6, eX2_putItem_9, eX2_putItem_10, eX2_putItem_13, eX2_putItem_14, eX2_putItem_15, eX2_putItem_16, eX2_putItem_19, eX2_putItem_20, eX2_putItem_21, eX2_putItem_22, eX2_putItem_25, eX2_putItem_26, eX2_putItem_27, eX2_putItem_28, eX2_putItem_31, eX2_putItem_32, eX2_putItem_33, eX2_putItem_34, eX2_putItem_37, eX2_putItem_38, eX2_putItem_39, eX2_putItem_42, eX2_putItem_93, Option.toList_some, Option.toList_none, List.cons_append, List.nil_append, gcat_nil, gcat_cons, cat_int, cat_ref, cat_null, cat_ret, cat_long, grc_ref, narZ0, narZ1, true_and, and_true, decide_true, Nat.reduceAdd, Nat.reduceLeDiff, if_true, if_false, eq_self, gfld_in, gobj_in, garr_in, garq_in, glen_in, gisO_in, ex_some, List.getElem?_cons_succ, List.getElem?_cons_zero, List.length_cons, List.length_nil, List.set_cons_succ, List.set_cons_zero, Nat.reduceLT, va_up_eq, va_up_nl, not_true_eq_false, Vs_8, Vs_10, Vs_11, v0, v1, v2, v3, v4, y0, y1, y2, y3, y4, n0, n1, n2, n3, n4, c_appendKind, hc6]
    have e1 : dpk dk 4 K vs = upd (upd (upd (upd (upd dk (5 * K) (nI (vs 0))) (5 * K + 1) (nI (vs 1))) (5 * K + 2) (nI (vs 2))) (5 * K + 3) (nI (vs 3))) (5 * K + 4) (nI (vs 4)) := if_pos rfl
    have e2 : pK 4 K = K + 1 := if_pos rfl
    have e3 : pN 4 N = N := if_neg (by omega)
    have e4 : dpr rm 4 vs = rm := if_neg (by omega)
    have e5 : dpt dt 4 N vs = dt := if_neg (by omega)
    rw [e1, e2, e3, e4, e5, nI5, nIp0, nI_1, nI_1, nIp2, nIp3, nIp4, gup_at (by omega) (by omega), gup_at (by omega) (by omega), gup_at (by omega) (by omega), gup_at (by omega) (by omega), gup_at (by omega) (by omega)]
  · have e : tCi 8 = 4 := rfl
    have h3 : ¬ (4 : Int32) = 3 := by decide
    have hp : pln 8 = 1 := rfl
    have n0 := hnb 0 (by omega)
    rw [e]
    simp only [eX2_putItem_0, eX2_putItem_1, eX2_putItem_2, eX2_putItem_45, eX2_putItem_46, eX2_putItem_47, eX2_putItem_50, eX2_putItem_51, eX2_putItem_54, eX2_putItem_55, eX2_putItem_58, eX2_putItem_59, eX2_putItem_60, eX2_putItem_63, eX2_putItem_93, Option.toList_some, Option.toList_none, List.cons_append, List.nil_append, gcat_nil, gcat_cons, cat_int, cat_ref, cat_null, cat_ret, cat_long, grc_ref, narZ0, narZ1, true_and, and_true, decide_true, Nat.reduceAdd, Nat.reduceLeDiff, if_true, if_false, eq_self, gfld_in, gobj_in, garr_in, garq_in, glen_in, gisO_in, ex_some, List.getElem?_cons_succ, List.getElem?_cons_zero, List.length_cons, List.length_nil, List.set_cons_succ, List.set_cons_zero, Nat.reduceLT, va_up_eq, va_up_nl, h3, not_true_eq_false, not_false_eq_true, Vs_8, Vs_10, Vs_11, v0, y0, n0, Vs_p11]
    rfl
  · exact test 5 _ (by omega) rfl (by decide) (by decide) (hN6 (by omega) (by omega)) (hnb 0 (by decide)) (hnb 1 (by decide))
  · exact test 6 _ (by omega) rfl (by decide) (by decide) (hN6 (by omega) (by omega)) (hnb 0 (by decide)) (hnb 1 (by decide))
  · exact test 7 _ (by omega) rfl (by decide) (by decide) (hN6 (by omega) (by omega)) (hnb 0 (by decide)) (hnb 1 (by decide))
theorem tCk_1 {s : Nat} (hk : 4 ≤ tK tv l s) : s < l ∧ tLet tv s := by
  unfold tK at hk
  by_cases q : l ≤ s
  · rw [if_pos q] at hk; omega
  · rw [if_neg q] at hk
    by_cases q1 : tLet tv s
    · exact ⟨by omega, q1⟩
    · rw [if_neg q1] at hk
      exfalso
      revert hk
      repeat' split
      all_goals omega
theorem tCk_2 {s : Nat} : (tCk tv l s = 2) ↔ tK tv l s = 2 := by
  have := tWk_ge (tW9 tv s (tWe tv l s))
  unfold tCk tK
  by_cases q : l ≤ s
  · rw [if_pos q, if_pos q]; decide
  · rw [if_neg q, if_neg q]
    by_cases q1 : tLet tv s
    · rw [if_pos q1, if_pos q1]
      constructor
      · intro z; exact absurd z (by decide)
      · intro z; omega
    · rw [if_neg q1, if_neg q1]
      by_cases q2 : tFig tv s
      · rw [if_pos q2, if_pos q2]
        by_cases q3 : s + 2 < tFe tv l s ∨ (tv s = 48 ∧ s + 1 < tFe tv l s)
        · rw [if_pos q3, if_pos q3]; decide
        · rw [if_neg q3, if_neg q3]; decide
      · rw [if_neg q2, if_neg q2]
        by_cases q3 : tv s = 59
        · rw [if_pos q3, if_pos q3]; decide
        · rw [if_neg q3, if_neg q3]; decide
theorem tCk_3 {s : Nat} : (tCk tv l s = 3) ↔ tK tv l s = 1 := by
  have := tWk_ge (tW9 tv s (tWe tv l s))
  unfold tCk tK
  by_cases q : l ≤ s
  · rw [if_pos q, if_pos q]; decide
  · rw [if_neg q, if_neg q]
    by_cases q1 : tLet tv s
    · rw [if_pos q1, if_pos q1]
      constructor
      · intro z; exact absurd z (by decide)
      · intro z; omega
    · rw [if_neg q1, if_neg q1]
      by_cases q2 : tFig tv s
      · rw [if_pos q2, if_pos q2]
        by_cases q3 : s + 2 < tFe tv l s ∨ (tv s = 48 ∧ s + 1 < tFe tv l s)
        · rw [if_pos q3, if_pos q3]; decide
        · rw [if_neg q3, if_neg q3]; decide
      · rw [if_neg q2, if_neg q2]
        by_cases q3 : tv s = 59
        · rw [if_pos q3, if_pos q3]; decide
        · rw [if_neg q3, if_neg q3]; decide
theorem tCk_0 {s : Nat} : (tCk tv l s = 0) ↔ tK tv l s = 0 := by
  have := tWk_ge (tW9 tv s (tWe tv l s))
  unfold tCk tK
  by_cases q : l ≤ s
  · rw [if_pos q, if_pos q]; decide
  · rw [if_neg q, if_neg q]
    by_cases q1 : tLet tv s
    · rw [if_pos q1, if_pos q1]
      constructor
      · intro z; exact absurd z (by decide)
      · intro z; omega
    · rw [if_neg q1, if_neg q1]
      by_cases q2 : tFig tv s
      · rw [if_pos q2, if_pos q2]
        by_cases q3 : s + 2 < tFe tv l s ∨ (tv s = 48 ∧ s + 1 < tFe tv l s)
        · rw [if_pos q3, if_pos q3]; decide
        · rw [if_neg q3, if_neg q3]; decide
      · rw [if_neg q2, if_neg q2]
        by_cases q3 : tv s = 59
        · rw [if_pos q3, if_pos q3]; decide
        · rw [if_neg q3, if_neg q3]; decide
theorem tCk_w {s : Nat} : (tCk tv l s = 1) ↔ (s < l ∧ tLet tv s) := by
  unfold tCk
  by_cases q : l ≤ s
  · rw [if_pos q]
    constructor
    · intro z; exact absurd z (by decide)
    · intro z; omega
  · rw [if_neg q]
    by_cases q1 : tLet tv s
    · rw [if_pos q1]; exact ⟨fun _ => ⟨by omega, q1⟩, fun _ => rfl⟩
    · rw [if_neg q1]
      constructor
      · intro z
        exfalso
        revert z
        repeat' split
        all_goals decide
      · intro z; exact absurd z.2 q1
theorem tK_w3 {s : Nat} (h : ¬ (s < l ∧ tLet tv s)) : tK tv l s < 4 := by
  by_cases q : tK tv l s < 4
  · exact q
  · exact absurd (tCk_1 (by omega)) h
end TG
