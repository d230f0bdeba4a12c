/-! UNDONE, IMAGES, COUNTS -/
section IA
variable {X : gX} {w : gH} {n k : Nat}
theorem h5_up {kr ts co : Nat → Int32} {kc tc rm jm : Int32} {e : gE} : va_up (sTr w 1 kr ts co kc tc rm jm) 5 e = sTr (va_up w 5 e) 1 kr ts co kc tc rm jm := sTr_up (by omega)
theorem h5_at {kr ts co : Nat → Int32} {kc tc rm jm : Int32} {e : gE} : sTr (va_up w 5 e) 1 kr ts co kc tc rm jm 5 = e := by rw [sTr_ne (by omega)]; simp [va_up]
theorem s_undo (hL : LI w n k) : GG X 95 159 [.ref 0] [.ref 24] n k w := by
  obtain ⟨nw, ps, d, im, ik, tv, l, S, Fk, Fx, Fb, hC, hM⟩ := hL
  have hC' := hC
  obtain ⟨h0, ⟨kr, ts, co, kc, tc, rm, jm, K, N, hT, hR⟩, hH, hTe, hPl, hWi⟩ := hC'
  have hR' := hR
  obtain ⟨hK, hN, r0, e1, r31, e2, rk, rt, e3, rc, e4, hrg⟩ := hR'
  subst e1; subst e2; subst e3; subst e4
  have h1 : w 1 = .inr (3, [.ref 2, .ref 3, .ref 4, .int (nI K), .int (nI N), .int (nw 50), .int (nw 58)]) := hT.1
  have hd6 : d ≤ 6 := by obtain ⟨_, _, _, _, _, _, _, h, _⟩ := hH; exact h
  have g5 : gisO 0 (w 5) = true := by obtain ⟨nx, rg, ig, h5, _⟩ := hH; rw [h5]; rfl
  unfold GG
  have hH' := hH
  obtain ⟨nx, rg, ig, h5, h6, h7, hx, hd, hS, hP, hI⟩ := hH'
  have e6 : Int32.ofNat 6 - 1 = 5 := by decide
  have e7 : (6 : Int32) - 1 = 5 := by decide
  have h10 : ¬ (1 : Int32) = 0 := by decide
  have hip : ∀ {x : Int32} {Q : Option Value → Nat → Nat → gH → Prop}, gEv (gT X) 12 0 [.ref 5, .int x] [] n k w Q ↔ Q (some (.int (gb (0 ≤ x ∧ x < 6)))) n k w := by intros; exact c_isPlace h5 h6
  have lat : ∀ {st : List Value} {Q : Option Value → Nat → Nat → gH → Prop}, gEv (gT X) 11 0 [.ref 5, .ref 1, .null] [] n k w Q ↔ gEv (gT X) 11 30 [.ref 5, .ref 1, .int (nI (hlt nx))] [] n k w Q := by
    intro st Q
    unfold hlt
    by_cases q : 0 < nx
    · have e1 : nI nx - 1 = nI (nx - 1) := by rw [show nx = nx - 1 + 1 by omega, nI_pred]; rfl
      have cq : 0 ≤ nI (nx - 1) ∧ nI (nx - 1) < 6 := ⟨nI_pos' (by omega), nI_lt (b := 6) (by omega) (by omega)⟩
      rw [if_pos q]
      simp only [eX0_recall_0, eX0_recall_1, eX0_recall_2, eX0_recall_5, eX0_recall_6, eX0_recall_7, eX0_recall_10, eX0_recall_13, eX0_recall_14, eX0_recall_17, eX0_recall_18, eX0_recall_19, eX0_recall_29, eX0_recall_29b, eX0_recall_29c, eX0_recall_29d, Option.toList_some, Option.toList_none, List.cons_append, List.nil_append, gcat_nil, gcat_cons, cat_int, cat_ref, cat_null, cat_ret, cat_long, grc_ref, narZ0, narZ1, true_and, and_true, decide_true, Nat.reduceAdd, Nat.reduceLeDiff, if_true, if_false, eq_self, gfld_in, gobj_in, garr_in, garq_in, glen_in, gisO_in, ex_some, List.getElem?_cons_succ, List.getElem?_cons_zero, List.length_cons, List.length_nil, List.set_cons_succ, List.set_cons_zero, Nat.reduceLT, va_up_eq, va_up_nl, h5, hip, e1, gb_t cq, h10]
    · have cq : ¬ (0 ≤ nI nx - 1 ∧ nI nx - 1 < 6) := by rw [show nx = 0 by omega]; decide
      rw [if_neg q]
      simp only [eX0_recall_0, eX0_recall_1, eX0_recall_2, eX0_recall_5, eX0_recall_6, eX0_recall_7, eX0_recall_10, eX0_recall_22, eX0_recall_23, eX0_recall_26, eX0_recall_27, eX0_recall_28, eX0_recall_29, eX0_recall_29b, eX0_recall_29c, eX0_recall_29d, Option.toList_some, Option.toList_none, List.cons_append, List.nil_append, gcat_nil, gcat_cons, cat_int, cat_ref, cat_null, cat_ret, cat_long, grc_ref, narZ0, narZ1, true_and, and_true, decide_true, Nat.reduceAdd, Nat.reduceLeDiff, if_true, if_false, eq_self, gfld_in, gobj_in, garr_in, garq_in, glen_in, gisO_in, ex_some, List.getElem?_cons_succ, List.getElem?_cons_zero, List.length_cons, List.length_nil, List.set_cons_succ, List.set_cons_zero, Nat.reduceLT, va_up_eq, va_up_nl, h5, h6, hip, gb_f cq, e6, e7]
      rfl
  simp only [eX5_undo_0, eX5_undo_1, eX5_undo_4, eX5_undo_5, eX5_undo_8, Option.toList_some, Option.toList_none, List.cons_append, List.nil_append, gcat_nil, gcat_cons, cat_int, cat_ref, cat_null, cat_ret, cat_long, grc_ref, narZ0, narZ1, true_and, and_true, decide_true, Nat.reduceAdd, Nat.reduceLeDiff, if_true, if_false, eq_self, gfld_in, gobj_in, garr_in, garq_in, glen_in, gisO_in, ex_some, List.getElem?_cons_succ, List.getElem?_cons_zero, List.length_cons, List.length_nil, List.set_cons_succ, List.set_cons_zero, Nat.reduceLT, va_up_eq, va_up_nl, h0, h5]
  rw [lat (st := [])]
  simp only [eX0_recall_30, eX0_recall_31, eX0_recall_34, Option.toList_some, Option.toList_none, List.cons_append, List.nil_append, gcat_nil, gcat_cons, cat_int, cat_ref, cat_null, cat_ret, cat_long, grc_ref, narZ0, narZ1, true_and, and_true, decide_true, Nat.reduceAdd, Nat.reduceLeDiff, if_true, if_false, eq_self, gfld_in, gobj_in, garr_in, garq_in, glen_in, gisO_in, ex_some, List.getElem?_cons_succ, List.getElem?_cons_zero, List.length_cons, List.length_nil, List.set_cons_succ, List.set_cons_zero, Nat.reduceLT, va_up_eq, va_up_nl, h5]
  by_cases q : d = 0
  · have c1 : nI d ≤ 0 := by rw [q]; decide
    rw [if_pos c1]
    simp only [eX0_recall_54, eX0_recall_55, Option.toList_some, Option.toList_none, List.cons_append, List.nil_append, gcat_nil, gcat_cons, cat_int, cat_ref, cat_null, cat_ret, cat_long, grc_ref, narZ0, narZ1, true_and, and_true, decide_true, Nat.reduceAdd, Nat.reduceLeDiff, if_true, if_false, eq_self, gfld_in, gobj_in, garr_in, garq_in, glen_in, gisO_in, ex_some, List.getElem?_cons_succ, List.getElem?_cons_zero, List.length_cons, List.length_nil, List.set_cons_succ, List.set_cons_zero, Nat.reduceLT, va_up_eq, va_up_nl, eX5_undo_11, eX5_undo_24, eX5_undo_26]
    refine ⟨_, rfl, ?_⟩
    obtain ⟨rd, tx, pz, tk, ta, va, fa, it, al, ln, fz, fb, be, fo, fm, io, hw, ht, hF⟩ := hM; refine ⟨by rw [hw]; rfl, ?_⟩; rw [hw]
    rw [c6_undo hd6, if_pos q]
    exact ⟨rfl, LI_mk hC ht hF⟩
  · have c1 : ¬ nI d ≤ 0 := nI_nle (by omega) (by omega)
    rw [if_neg c1]
    obtain ⟨p, hp, hr⟩ := hP (d - 1) (by omega)
    have er : rix nx d (d - 1) = hlt nx := by
      unfold rix hlt
      split <;> omega
    rw [er] at hp
    have hl6 : hlt nx < 6 := by unfold hlt; split <;> omega
    have vx : vp_in (nI (hlt nx)) 6 := vp_in_nI hl6 (by omega)
    obtain ⟨kr', ts', co', kc', tc', rm', jm', K', N', hT', hR'⟩ := hr
    have hp36 : 36 ≤ p := by
      have := hS.2.2.1 (hlt nx) (by omega) p (by unfold slo; rw [if_pos hl6]; exact hp)
      exact this.1
    have hs1 : sTr w 1 kr ts co (nI K) (nI N) (nw 50) (nw 58) = w := sTr_self hT
    have hcf : ∀ {Q : Option Value → Nat → Nat → gH → Prop}, gEv (gT X) 44 0 [.ref 1, .ref p] [] n k w Q ↔ Q none n k (sTr w 1 (gcp kr' kr 30) (gcp ts' ts 18) (gcp co' co 7) kc' tc' rm' jm') := by
      intro Q
      have := @c_copyFrom X n k w Q 1 kr ts co (nI K) (nI N) (nw 50) (nw 58) p kr' ts' co' kc' tc' rm' jm' hT' (by omega)
      rw [hs1] at this
      exact this
    have g5' : ∀ {kr ts co : Nat → Int32} {kc tc rm jm : Int32}, sTr w 1 kr ts co kc tc rm jm 5 = (.inr (0, [.ref 6, .int (nI nx), .int (nI d)]) : gE) := by intros; rw [sTr_ne (by omega), h5]
    have g0' : ∀ {kr ts co : Nat → Int32} {kc tc rm jm : Int32} {e : gE}, sTr (va_up w 5 e) 1 kr ts co kc tc rm jm 0 = (.inr (5, [.ref 1, .ref 5, .ref 7, .ref 8, .ref 15, .ref 20]) : gE) := by intros; rw [sTr_ne (by omega), up_lit (by omega), h0]
    have ed : nI d - 1 = nI (d - 1) := by rw [show d = d - 1 + 1 by omega, nI_pred]; rfl
    have cl : 0 ≤ nI (hlt nx) ∧ nI (hlt nx) < 6 := ⟨nI_pos' (by omega), nI_lt (b := 6) hl6 (by omega)⟩
    simp only [eX0_recall_37, eX0_recall_38, eX0_recall_39, eX0_recall_42, eX0_recall_45, eX0_recall_46, eX0_recall_49, eX0_recall_50, eX0_recall_51, eX0_recall_51b, eX0_recall_56, eX0_recall_57, eX0_recall_58, eX0_recall_61, eX0_recall_62, eX0_recall_63, Option.toList_some, Option.toList_none, List.cons_append, List.nil_append, gcat_nil, gcat_cons, cat_int, cat_ref, cat_null, cat_ret, cat_long, grc_ref, narZ0, narZ1, true_and, and_true, decide_true, Nat.reduceAdd, Nat.reduceLeDiff, if_true, if_false, eq_self, gfld_in, gobj_in, garr_in, garq_in, glen_in, gisO_in, ex_some, List.getElem?_cons_succ, List.getElem?_cons_zero, List.length_cons, List.length_nil, List.set_cons_succ, List.set_cons_zero, Nat.reduceLT, va_up_eq, va_up_nl, h5, h6, hip, gb_t cl, h10, vx, nI_clamp (show hlt nx < 2 ^ 31 by omega), hp, va_rf_some, h1, hcf]
    simp only [eX0_recall_66, eX0_recall_67, eX0_recall_68, eX0_recall_71, eX0_recall_72, eX0_recall_72b, eX0_recall_73, eX0_recall_76, eX0_recall_77, eX0_recall_78, eX0_recall_81, eX0_recall_82, Option.toList_some, Option.toList_none, List.cons_append, List.nil_append, gcat_nil, gcat_cons, cat_int, cat_ref, cat_null, cat_ret, cat_long, grc_ref, narZ0, narZ1, true_and, and_true, decide_true, Nat.reduceAdd, Nat.reduceLeDiff, if_true, if_false, eq_self, gfld_in, gobj_in, garr_in, garq_in, glen_in, gisO_in, ex_some, List.getElem?_cons_succ, List.getElem?_cons_zero, List.length_cons, List.length_nil, List.set_cons_succ, List.set_cons_zero, Nat.reduceLT, va_up_eq, va_up_nl, g5', h5_up, h5_at, va_up_up, ed]
    simp only [eX5_undo_11, eX5_undo_14, eX5_undo_15, eX5_undo_18, eX5_undo_21, eX5_undo_26, Option.toList_some, Option.toList_none, List.cons_append, List.nil_append, gcat_nil, gcat_cons, cat_int, cat_ref, cat_null, cat_ret, cat_long, grc_ref, narZ0, narZ1, true_and, and_true, decide_true, Nat.reduceAdd, Nat.reduceLeDiff, if_true, if_false, eq_self, gfld_in, gobj_in, garr_in, garq_in, glen_in, gisO_in, ex_some, List.getElem?_cons_succ, List.getElem?_cons_zero, List.length_cons, List.length_nil, List.set_cons_succ, List.set_cons_zero, Nat.reduceLT, va_up_eq, va_up_nl, h10, g0', h5_at]
    refine ⟨_, rfl, ?_⟩
    have hf : ∀ a, a ≠ 5 → a ≠ 6 → a < 36 → va_up w 5 (.inr (0, [.ref 6, .int (nI (hlt nx)), .int (nI (d - 1))]) : gE) a = w a := fun a q1 q2 q3 => up_lit q1
    have hH2 : rRH (va_up w 5 (.inr (0, [.ref 6, .int (nI (hlt nx)), .int (nI (d - 1))]) : gE)) n k ps (d - 1) im ik := by
      refine ⟨hlt nx, rg, ig, by simp [va_up], by rw [up_lit (by omega), h6], by rw [up_lit (by omega), h7], hl6, by omega, ⟨hS.1, hS.2.1, ?_, hS.2.2.2⟩, ?_, ?_⟩
      · intro j hj p' hp'
        obtain ⟨q1, q2, q3, q4⟩ := hS.2.2.1 j hj p' hp'
        exact ⟨q1, q2, q3, shT_fr q4 (fun a z1 z2 => up_lit (by omega))⟩
      · intro i hi
        obtain ⟨p', hp', hr'⟩ := hP i (by omega)
        have e : rix (hlt nx) (d - 1) i = rix nx d i := by
          unfold rix hlt
          split <;> omega
        have h36 := (hS.2.2.1 (rix nx d i) (by have := @rix_lt nx d i; omega) p' (by unfold slo; rw [if_pos rix_lt]; exact hp')).1
        exact ⟨p', by rw [e]; exact hp', rTr_fr hr' (fun a z1 z2 => up_lit (by omega))⟩
      · intro i hi
        rcases hI i hi with h | ⟨p', hp', hk, hr'⟩
        · exact Or.inl h
        · have h36 := (hS.2.2.1 (6 + i) (by omega) p' (by unfold slo; rw [if_neg (by omega), Nat.add_sub_cancel_left]; exact hp')).1
          exact Or.inr ⟨p', hp', hk, rTr_fr hr' (fun a z1 z2 => up_lit (by omega))⟩
    obtain ⟨rd, tx, pz, tk, ta, va, fa, it, al, ln, fz, fb, be, fo, fm, io, hw, ht, hF⟩ := RM_deed (kr := gcp kr' kr 30) (ts := gcp ts' ts 18) (co := gcp co' co 7) (kc := kc') (tc := tc') (rm := rm') (jm := jm') hM hf; refine ⟨by rw [hw]; rfl, ?_⟩; rw [hw]
    rw [c6_undo hd6, if_neg q]
    refine ⟨rfl, LI_mk (d := d - 1) (RC_deed hC hH2 hf (tRl_row (tRl_cp hR') (fun z hz => ?_))) ht hF⟩
    rw [mrng_in (by omega) hz]
theorem c_hasImage {ig : Nat → Option Nat} (h0 : w 0 = (.inr (5, [.ref 1, .ref 5, .ref 7, .ref 8, .ref 15, .ref 20]) : gE)) (h7 : w 7 = (.inl ((.object "CoinTrack$Track"), 2, .inr (.inr (.inr (.inr (ig))))) : gE)) {a : Int32} {Q : Option Value → Nat → Nat → gH → Prop} : gEv (gT X) 109 0 [.ref 0, .int a] [] n k w Q ↔ Q (some (.int (gb (0 ≤ a ∧ a ≤ 1)))) n k w := by
  have e : (Int32.ofNat 2 ≤ a) ↔ ¬ a ≤ 1 := by
    rw [Int32.not_le, Int32.le_iff_toInt_le, Int32.lt_iff_toInt_lt]
    have h2 : (Int32.ofNat 2).toInt = 2 := by decide
    have h1 : (1 : Int32).toInt = 1 := by decide
    omega
  simp only [eX5_hasImage_0, eX5_hasImage_1, eX5_hasImage_4, eX5_hasImage_5, eX5_hasImage_6, eX5_hasImage_9, eX5_hasImage_10, eX5_hasImage_13, eX5_hasImage_14, eX5_hasImage_17, eX5_hasImage_18, Option.toList_some, Option.toList_none, List.cons_append, List.nil_append, gcat_nil, gcat_cons, cat_int, cat_ref, cat_null, cat_ret, cat_long, grc_ref, narZ0, narZ1, true_and, and_true, decide_true, Nat.reduceAdd, Nat.reduceLeDiff, if_true, if_false, eq_self, gfld_in, gobj_in, garr_in, garq_in, glen_in, gisO_in, ex_some, List.getElem?_cons_succ, List.getElem?_cons_zero, List.length_cons, List.length_nil, List.set_cons_succ, List.set_cons_zero, Nat.reduceLT, va_up_eq, va_up_nl, h0, h7, e]
  by_cases q1 : a < 0
  · rw [if_pos q1, gb_f (fun z => absurd z.1 (Int32.not_le.mpr q1))]
  · rw [if_neg q1]
    by_cases q2 : a ≤ 1
    · rw [if_neg (fun z => z q2), gb_t ⟨Int32.not_lt.mp q1, q2⟩]
    · rw [if_pos q2, gb_f (fun z => q2 z.2)]
theorem s_back (hL : LI w n k) {a : Int32} : GG X 107 182 [.ref 0, .int a] [.ref 24, .int a] n k w := by
  obtain ⟨nw, ps, d, im, ik, tv, l, S, Fk, Fx, Fb, hC, hM⟩ := hL
  have hC' := hC
  obtain ⟨h0, ⟨kr, ts, co, kc, tc, rm, jm, K, N, hT, hR⟩, hH, hTe, hPl, hWi⟩ := hC'
  have hR' := hR
  obtain ⟨hK, hN, r0, e1, r31, e2, rk, rt, e3, rc, e4, hrg⟩ := hR'
  subst e1; subst e2; subst e3; subst e4
  have h1 : w 1 = .inr (3, [.ref 2, .ref 3, .ref 4, .int (nI K), .int (nI N), .int (nw 50), .int (nw 58)]) := hT.1
  have hd6 : d ≤ 6 := by obtain ⟨_, _, _, _, _, _, _, h, _⟩ := hH; exact h
  have g5 : gisO 0 (w 5) = true := by obtain ⟨nx, rg, ig, h5, _⟩ := hH; rw [h5]; rfl
  unfold GG
  have hH' := hH
  obtain ⟨nx, rg, ig, h5, h6, h7, hx, hd, hS, hP, hI⟩ := hH'
  simp only [eX5_back_0, eX5_back_1, eX5_back_2, eX5_back_5, Option.toList_some, Option.toList_none, List.cons_append, List.nil_append, gcat_nil, gcat_cons, cat_int, cat_ref, cat_null, cat_ret, cat_long, grc_ref, narZ0, narZ1, true_and, and_true, decide_true, Nat.reduceAdd, Nat.reduceLeDiff, if_true, if_false, eq_self, gfld_in, gobj_in, garr_in, garq_in, glen_in, gisO_in, ex_some, List.getElem?_cons_succ, List.getElem?_cons_zero, List.length_cons, List.length_nil, List.set_cons_succ, List.set_cons_zero, Nat.reduceLT, va_up_eq, va_up_nl, h0, c_hasImage h0 h7, gb_0]
  by_cases q : 0 ≤ a ∧ a ≤ 1
  · rw [if_pos (fun z => z q)]
    obtain ⟨i, hi, _, hi2⟩ := inR_of (lo := 0) (hi := 1) (by omega) (by omega) q
    subst hi
    have vi : vp_in (nI i) 2 := vp_in_nI (by omega) (by omega)
    simp only [eX5_back_10, eX5_back_11, eX5_back_14, eX5_back_15, Option.toList_some, Option.toList_none, List.cons_append, List.nil_append, gcat_nil, gcat_cons, cat_int, cat_ref, cat_null, cat_ret, cat_long, grc_ref, narZ0, narZ1, true_and, and_true, decide_true, Nat.reduceAdd, Nat.reduceLeDiff, if_true, if_false, eq_self, gfld_in, gobj_in, garr_in, garq_in, glen_in, gisO_in, ex_some, List.getElem?_cons_succ, List.getElem?_cons_zero, List.length_cons, List.length_nil, List.set_cons_succ, List.set_cons_zero, Nat.reduceLT, va_up_eq, va_up_nl, h0, h7, vi, nI_clamp (show i < 2 ^ 31 by omega)]
    rcases hI i (by omega) with ⟨hn, hk⟩ | ⟨p, hp, hk, hr⟩
    · simp only [hn, va_rf_none, eX5_back_16, eX5_back_16b, eX5_back_19, eX5_back_21, Option.toList_some, Option.toList_none, List.cons_append, List.nil_append, gcat_nil, gcat_cons, cat_int, cat_ref, cat_null, cat_ret, cat_long, grc_ref, narZ0, narZ1, true_and, and_true, decide_true, Nat.reduceAdd, Nat.reduceLeDiff, if_true, if_false, eq_self, gfld_in, gobj_in, garr_in, garq_in, glen_in, gisO_in, ex_some, List.getElem?_cons_succ, List.getElem?_cons_zero, List.length_cons, List.length_nil, List.set_cons_succ, List.set_cons_zero, Nat.reduceLT, va_up_eq, va_up_nl]
      refine ⟨_, rfl, ?_⟩
      obtain ⟨rd, tx, pz, tk, ta, va, fa, it, al, ln, fz, fb, be, fo, fm, io, hw, ht, hF⟩ := hM; refine ⟨by rw [hw]; rfl, ?_⟩; rw [hw]
      rw [c6_back (by omega), if_pos hk]
      exact ⟨rfl, LI_mk hC ht hF⟩
    · obtain ⟨kr', ts', co', kc', tc', rm', jm', K', N', hT', hR'⟩ := hr
      have hR2 := hR'
      obtain ⟨_, _, _, _, r31', etc, _⟩ := hR2
      have hp36 := (hS.2.2.1 (6 + i) (by omega) p (by unfold slo; rw [if_neg (by omega), Nat.add_sub_cancel_left]; exact hp)).1
      have hs1 : sTr w 1 kr ts co (nI K) (nI N) (nw 50) (nw 58) = w := sTr_self hT
      have hcf : ∀ {Q : Option Value → Nat → Nat → gH → Prop}, gEv (gT X) 44 0 [.ref 1, .ref p] [] n k w Q ↔ Q none n k (sTr w 1 (gcp kr' kr 30) (gcp ts' ts 18) (gcp co' co 7) kc' tc' rm' jm') := by
        intro Q
        have := @c_copyFrom X n k w Q 1 kr ts co (nI K) (nI N) (nw 50) (nw 58) p kr' ts' co' kc' tc' rm' jm' hT' (by omega)
        rw [hs1] at this
        exact this
      have g5' : ∀ {kr ts co : Nat → Int32} {kc tc rm jm : Int32}, sTr w 1 kr ts co kc tc rm jm 5 = (.inr (0, [.ref 6, .int (nI nx), .int (nI d)]) : gE) := by intros; rw [sTr_ne (by omega), h5]
      have g0' : ∀ {kr ts co : Nat → Int32} {kc tc rm jm : Int32} {e : gE}, sTr (va_up w 5 e) 1 kr ts co kc tc rm jm 0 = (.inr (5, [.ref 1, .ref 5, .ref 7, .ref 8, .ref 15, .ref 20]) : gE) := by intros; rw [sTr_ne (by omega), up_lit (by omega), h0]
      have g00 : ∀ {kr ts co : Nat → Int32} {kc tc rm jm : Int32}, sTr w 1 kr ts co kc tc rm jm 0 = (.inr (5, [.ref 1, .ref 5, .ref 7, .ref 8, .ref 15, .ref 20]) : gE) := by intros; rw [sTr_ne (by omega), h0]
      have h10 : ¬ (1 : Int32) = 0 := by decide
      simp only [hp, va_rf_some, eX5_back_16, eX5_back_16b, eX5_back_22, eX5_back_23, eX5_back_26, eX5_back_27, eX5_back_30, eX5_back_31, eX5_back_32, Option.toList_some, Option.toList_none, List.cons_append, List.nil_append, gcat_nil, gcat_cons, cat_int, cat_ref, cat_null, cat_ret, cat_long, grc_ref, narZ0, narZ1, true_and, and_true, decide_true, Nat.reduceAdd, Nat.reduceLeDiff, if_true, if_false, eq_self, gfld_in, gobj_in, garr_in, garq_in, glen_in, gisO_in, ex_some, List.getElem?_cons_succ, List.getElem?_cons_zero, List.length_cons, List.length_nil, List.set_cons_succ, List.set_cons_zero, Nat.reduceLT, va_up_eq, va_up_nl, h0, h1, h7, vi, nI_clamp (show i < 2 ^ 31 by omega), hcf]
      simp only [eX5_back_35, eX5_back_36, eX5_back_39, eX5_back_40, eX5_back_43, eX5_back_44, eX5_back_47, eX5_back_50, Option.toList_some, Option.toList_none, List.cons_append, List.nil_append, gcat_nil, gcat_cons, cat_int, cat_ref, cat_null, cat_ret, cat_long, grc_ref, narZ0, narZ1, true_and, and_true, decide_true, Nat.reduceAdd, Nat.reduceLeDiff, if_true, if_false, eq_self, gfld_in, gobj_in, garr_in, garq_in, glen_in, gisO_in, ex_some, List.getElem?_cons_succ, List.getElem?_cons_zero, List.length_cons, List.length_nil, List.set_cons_succ, List.set_cons_zero, Nat.reduceLT, va_up_eq, va_up_nl, g00, g5', h5_up, g0', s1_0]
      refine ⟨_, rfl, ?_⟩
      have hf : ∀ a, a ≠ 5 → a ≠ 6 → a < 36 → va_up w 5 (.inr (0, [.ref 6, .int (nI nx), .int (0)]) : gE) a = w a := fun a q1 q2 q3 => up_lit q1
      have hH2 : rRH (va_up w 5 (.inr (0, [.ref 6, .int (nI nx), .int (0)]) : gE)) n k ps 0 im ik := by
        refine ⟨nx, rg, ig, by simp [va_up, nI_0], by rw [up_lit (by omega), h6], by rw [up_lit (by omega), h7], hx, by omega, ⟨hS.1, hS.2.1, ?_, hS.2.2.2⟩, fun i hi => absurd hi (by omega), ?_⟩
        · intro j hj p' hp'
          obtain ⟨q1, q2, q3, q4⟩ := hS.2.2.1 j hj p' hp'
          exact ⟨q1, q2, q3, shT_fr q4 (fun a z1 z2 => up_lit (by omega))⟩
        · intro i hi
          rcases hI i hi with h | ⟨p', hp', hk, hr'⟩
          · exact Or.inl h
          · have h36 := (hS.2.2.1 (6 + i) (by omega) p' (by unfold slo; rw [if_neg (by omega), Nat.add_sub_cancel_left]; exact hp')).1
            exact Or.inr ⟨p', hp', hk, rTr_fr hr' (fun a z1 z2 => up_lit (by omega))⟩
      obtain ⟨rd, tx, pz, tk, ta, va, fa, it, al, ln, fz, fb, be, fo, fm, io, hw, ht, hF⟩ := RM_deed (kr := gcp kr' kr 30) (ts := gcp ts' ts 18) (co := gcp co' co 7) (kc := kc') (tc := tc') (rm := rm') (jm := jm') hM hf; refine ⟨by rw [hw]; rfl, ?_⟩; rw [hw]
      rw [c6_back (by omega), if_neg (by rw [hk]; exact h10)]
      refine ⟨by rw [etc, ← r31'], LI_mk (d := 0) (RC_deed hC hH2 hf (tRl_row (tRl_cp hR') (fun z hz => ?_))) ht hF⟩
      rw [mrng_in (by omega) hz]
  · rw [if_neg (fun z => z q)]
    simp only [eX5_back_8, eX5_back_9, Option.toList_some, Option.toList_none, List.cons_append, List.nil_append, gcat_nil, gcat_cons, cat_int, cat_ref, cat_null, cat_ret, cat_long, grc_ref, narZ0, narZ1, true_and, and_true, decide_true, Nat.reduceAdd, Nat.reduceLeDiff, if_true, if_false, eq_self, gfld_in, gobj_in, garr_in, garq_in, glen_in, gisO_in, ex_some, List.getElem?_cons_succ, List.getElem?_cons_zero, List.length_cons, List.length_nil, List.set_cons_succ, List.set_cons_zero, Nat.reduceLT, va_up_eq, va_up_nl]
    refine ⟨_, rfl, ?_⟩
    obtain ⟨rd, tx, pz, tk, ta, va, fa, it, al, ln, fz, fb, be, fo, fm, io, hw, ht, hF⟩ := hM; refine ⟨by rw [hw]; rfl, ?_⟩; rw [hw]
    rw [c6_back_bad q]
    exact ⟨rfl, LI_mk hC ht hF⟩
theorem s_keep (hL : LI w n k) {a : Int32} : GG X 106 181 [.ref 0, .int a] [.ref 24, .int a] n k w := by
  obtain ⟨nw, ps, d, im, ik, tv, l, S, Fk, Fx, Fb, hC, hM⟩ := hL
  have hC' := hC
  obtain ⟨h0, ⟨kr, ts, co, kc, tc, rm, jm, K, N, hT, hR⟩, hH, hTe, hPl, hWi⟩ := hC'
  have hR' := hR
  obtain ⟨hK, hN, r0, e1, r31, e2, rk, rt, e3, rc, e4, hrg⟩ := hR'
  subst e1; subst e2; subst e3; subst e4
  have h1 : w 1 = .inr (3, [.ref 2, .ref 3, .ref 4, .int (nI K), .int (nI N), .int (nw 50), .int (nw 58)]) := hT.1
  have hd6 : d ≤ 6 := by obtain ⟨_, _, _, _, _, _, _, h, _⟩ := hH; exact h
  have g5 : gisO 0 (w 5) = true := by obtain ⟨nx, rg, ig, h5, _⟩ := hH; rw [h5]; rfl
  unfold GG
  have hH' := hH
  obtain ⟨nx, rg, ig, h5, h6, h7, hx, hd, ⟨s1, s2, s3, s4⟩, hP, hI⟩ := hH'
  simp only [eX5_keep_0, eX5_keep_1, eX5_keep_2, eX5_keep_5, Option.toList_some, Option.toList_none, List.cons_append, List.nil_append, gcat_nil, gcat_cons, cat_int, cat_ref, cat_null, cat_ret, cat_long, grc_ref, narZ0, narZ1, true_and, and_true, decide_true, Nat.reduceAdd, Nat.reduceLeDiff, if_true, if_false, eq_self, gfld_in, gobj_in, garr_in, garq_in, glen_in, gisO_in, ex_some, List.getElem?_cons_succ, List.getElem?_cons_zero, List.length_cons, List.length_nil, List.set_cons_succ, List.set_cons_zero, Nat.reduceLT, va_up_eq, va_up_nl, h0, c_hasImage h0 h7, gb_0]
  by_cases q : 0 ≤ a ∧ a ≤ 1
  · rw [if_pos (fun z => z q)]
    obtain ⟨i, hi, _, hi2⟩ := inR_of (lo := 0) (hi := 1) (by omega) (by omega) q
    subst hi
    have vi : vp_in (nI i) 2 := vp_in_nI (by omega) (by omega)
    have hf8 : frs rg ig ≤ 8 := frs_le
    have hn : 36 ≤ n := by omega
    have slx : slo rg ig (6 + i) = ig i := by unfold slo; rw [if_neg (by omega), Nat.add_sub_cancel_left]
    -- the end is the same for both ways
    have tail : ∀ (p n' k' : Nat) (kr0 ts0 co0 : Nat → Int32) (kc0 tc0 rm0 jm0 : Int32), (ig i = some p ∧ n' = n ∧ k' = k) ∨ (ig i = none ∧ p = n ∧ n' = n + 4 ∧ k' = k + 62) → gEv (gT X) 106 32 [.ref 0, .int (nI i)] [] n' k' (sTr (va_up w 7 (.inl ((.object "CoinTrack$Track"), 2, .inr (.inr (.inr (.inr (va_up ig i (some p)))))) : gE)) p kr0 ts0 co0 kc0 tc0 rm0 jm0) (fun v n1 k1 w1 => ∃ y, v = some (.int y) ∧ gisO 6 (w1 24) = true ∧ gEv (gT X) 181 0 [.ref 24, .int (nI i)] [] n1 k1 w1 (fun v2 n2 k2 w2 => v2 = some (.int y) ∧ LI w2 n2 k2)) := by
      intro p n' k' kr0 ts0 co0 kc0 tc0 rm0 jm0 hc
      have f1 : 36 ≤ p ∧ p + 4 ≤ n' ∧ p % 4 = 0 ∧ n ≤ n' := by
        rcases hc with ⟨c1, c2, c3⟩ | ⟨c1, c2, c3, c4⟩
        · obtain ⟨q1, q2, q3, q4⟩ := s3 (6 + i) (by omega) p (by rw [slx]; exact c1)
          omega
        · omega
      have f2 : ∀ j, j < 8 → j ≠ 6 + i → ∀ p', slo rg ig j = some p' → 36 ≤ p' ∧ p' + 4 ≤ n ∧ p' % 4 = 0 ∧ p' ≠ p := by
        intro j hj hjn p' hp'
        obtain ⟨q1, q2, q3, q4⟩ := s3 j hj p' hp'
        refine ⟨q1, q2, q3, ?_⟩
        rcases hc with ⟨c1, c2, c3⟩ | ⟨c1, c2, c3, c4⟩
        · intro e
          subst e
          exact hjn (s4 j hj (6 + i) (by omega) p' hp' (by rw [slx]; exact c1))
        · omega
      have sl' : ∀ j, j < 8 → slo rg (va_up ig i (some p)) j = if j = 6 + i then some p else slo rg ig j := by
        intro j hj
        unfold slo va_up
        by_cases q2 : j < 6
        · rw [if_pos q2, if_neg (by omega), if_pos q2]
        · rw [if_neg q2, if_neg q2]
          by_cases y : j = 6 + i
          · rw [if_pos (by omega), if_pos y]
          · rw [if_neg (by omega), if_neg y]
      have hT7 : isTr (va_up w 7 (.inl ((.object "CoinTrack$Track"), 2, .inr (.inr (.inr (.inr (va_up ig i (some p)))))) : gE)) 1 kr ts co (nI K) (nI N) (nw 50) (nw 58) := isTr_up hT (by omega)
      have hcf : ∀ {Q : Option Value → Nat → Nat → gH → Prop}, gEv (gT X) 44 0 [.ref p, .ref 1] [] n' k' (sTr (va_up w 7 (.inl ((.object "CoinTrack$Track"), 2, .inr (.inr (.inr (.inr (va_up ig i (some p)))))) : gE)) p kr0 ts0 co0 kc0 tc0 rm0 jm0) Q ↔ Q none n' k' (sTr (va_up w 7 (.inl ((.object "CoinTrack$Track"), 2, .inr (.inr (.inr (.inr (va_up ig i (some p)))))) : gE)) p (gcp kr kr0 30) (gcp ts ts0 18) (gcp co co0 7) (nI K) (nI N) (nw 50) (nw 58)) := c_copyFrom hT7 (by omega)
      have fw : ∀ {kr ts co : Nat → Int32} {kc tc rm jm : Int32}, ∀ a, a ≠ 7 → (a < p ∨ p + 3 < a) → (sTr (va_up w 7 (.inl ((.object "CoinTrack$Track"), 2, .inr (.inr (.inr (.inr (va_up ig i (some p)))))) : gE)) p kr ts co kc tc rm jm) a = w a := by
        intros kr ts co kc tc rm jm a q7 hp
        rw [sTr_ne hp, up_lit q7]
      have g0' : ∀ {kr ts co : Nat → Int32} {kc tc rm jm : Int32}, sTr (va_up w 7 (.inl ((.object "CoinTrack$Track"), 2, .inr (.inr (.inr (.inr (va_up ig i (some p)))))) : gE)) p kr ts co kc tc rm jm 0 = (.inr (5, [.ref 1, .ref 5, .ref 7, .ref 8, .ref 15, .ref 20]) : gE) := by intros; rw [fw 0 (by omega) (by omega), h0]
      have g1' : ∀ {kr ts co : Nat → Int32} {kc tc rm jm : Int32}, sTr (va_up w 7 (.inl ((.object "CoinTrack$Track"), 2, .inr (.inr (.inr (.inr (va_up ig i (some p)))))) : gE)) p kr ts co kc tc rm jm 1 = .inr (3, [.ref 2, .ref 3, .ref 4, .int (nI K), .int (nI N), .int (nw 50), .int (nw 58)]) := by intros; rw [fw 1 (by omega) (by omega), h1]
      have g7' : ∀ {kr ts co : Nat → Int32} {kc tc rm jm : Int32}, sTr (va_up w 7 (.inl ((.object "CoinTrack$Track"), 2, .inr (.inr (.inr (.inr (va_up ig i (some p)))))) : gE)) p kr ts co kc tc rm jm 7 = (.inl ((.object "CoinTrack$Track"), 2, .inr (.inr (.inr (.inr (va_up ig i (some p)))))) : gE) := by intros; rw [sTr_ne (by omega)]; simp [va_up]
      have gp' : ∀ {kr ts co : Nat → Int32} {kc tc rm jm : Int32}, gisO 3 (sTr (va_up w 7 (.inl ((.object "CoinTrack$Track"), 2, .inr (.inr (.inr (.inr (va_up ig i (some p)))))) : gE)) p kr ts co kc tc rm jm p) = true := by intros; rw [sTr_0]; rfl
      simp only [eX5_keep_32, eX5_keep_33, eX5_keep_36, eX5_keep_37, eX5_keep_38, eX5_keep_39, eX5_keep_42, Option.toList_some, Option.toList_none, List.cons_append, List.nil_append, gcat_nil, gcat_cons, cat_int, cat_ref, cat_null, cat_ret, cat_long, grc_ref, narZ0, narZ1, true_and, and_true, decide_true, Nat.reduceAdd, Nat.reduceLeDiff, if_true, if_false, eq_self, gfld_in, gobj_in, garr_in, garq_in, glen_in, gisO_in, ex_some, List.getElem?_cons_succ, List.getElem?_cons_zero, List.length_cons, List.length_nil, List.set_cons_succ, List.set_cons_zero, Nat.reduceLT, va_up_eq, va_up_nl, g0', g7', vi, nI_clamp (show i < 2 ^ 31 by omega), upo_eq, va_rf_some, gp', hcf]
      simp only [eX5_keep_45, eX5_keep_46, eX5_keep_49, eX5_keep_52, Option.toList_some, Option.toList_none, List.cons_append, List.nil_append, gcat_nil, gcat_cons, cat_int, cat_ref, cat_null, cat_ret, cat_long, grc_ref, narZ0, narZ1, true_and, and_true, decide_true, Nat.reduceAdd, Nat.reduceLeDiff, if_true, if_false, eq_self, gfld_in, gobj_in, garr_in, garq_in, glen_in, gisO_in, ex_some, List.getElem?_cons_succ, List.getElem?_cons_zero, List.length_cons, List.length_nil, List.set_cons_succ, List.set_cons_zero, Nat.reduceLT, va_up_eq, va_up_nl, g0', g1']
      refine ⟨_, rfl, ?_⟩
      have hRC : RC (sTr (va_up w 7 (.inl ((.object "CoinTrack$Track"), 2, .inr (.inr (.inr (.inr (va_up ig i (some p)))))) : gE)) p (gcp kr kr0 30) (gcp ts ts0 18) (gcp co co0 7) (nI K) (nI N) (nw 50) (nw 58)) n' k' nw ps d (mrng (59 * i) (59 * i + 59) (fun z => nw (0 + (z - 59 * i))) im) (upd ik i 1) tv l S Fk Fx Fb := by
        refine ⟨g0', ⟨kr, ts, co, _, _, _, _, K, N, isTr_fr hT (fun a z1 z2 => fw a (by omega) (by omega)), hR⟩, ?_, rRT_fr hTe (fun a z1 z2 => fw a (by omega) (by omega)), rRP_fr hPl (fun a z1 z2 => fw a (by omega) (by omega)), rRW_fr hWi (fun a z1 z2 => fw a (by omega) (by omega))⟩
        refine ⟨nx, rg, va_up ig i (some p), by rw [fw 5 (by omega) (by omega), h5], by rw [fw 6 (by omega) (by omega), h6], g7', hx, hd, ⟨?_, ?_, ?_, ?_⟩, ?_, ?_⟩
        · rcases hc with ⟨c1, c2, c3⟩ | ⟨c1, c2, c3, c4⟩
          · rw [upo_self c1, c2]; exact s1
          · have := fr_up2 (rg := rg) (p := p) (show i < 2 by omega) c1
            omega
        · rcases hc with ⟨c1, c2, c3⟩ | ⟨c1, c2, c3, c4⟩
          · rw [upo_self c1, c3]; exact s2
          · have := fr_up2 (rg := rg) (p := p) (show i < 2 by omega) c1
            omega
        · intro j hj p' hp'
          rw [sl' j hj] at hp'
          by_cases y : j = 6 + i
          · rw [if_pos y] at hp'
            cases hp'
            exact ⟨f1.1, f1.2.1, f1.2.2.1, ⟨_, _, _, _, _, _, _, sTr_is⟩⟩
          · rw [if_neg y] at hp'
            obtain ⟨q1, q2, q3, q4⟩ := s3 j hj p' hp'
            obtain ⟨_, _, _, g4⟩ := f2 j hj y p' hp'
            exact ⟨q1, by omega, q3, shT_fr q4 (fun a h1 h2 => fw a (by omega) (by omega))⟩
        · intro i1 hi1 j hj p' z1 z2
          rw [sl' i1 hi1] at z1
          rw [sl' j hj] at z2
          by_cases qi : i1 = 6 + i
          · by_cases qj : j = 6 + i
            · omega
            · rw [if_pos qi] at z1
              rw [if_neg qj] at z2
              cases z1
              exact absurd rfl (f2 j hj qj p z2).2.2.2
          · by_cases qj : j = 6 + i
            · rw [if_neg qi] at z1
              rw [if_pos qj] at z2
              cases z2
              exact absurd rfl (f2 i1 hi1 qi p z1).2.2.2
            · rw [if_neg qi] at z1
              rw [if_neg qj] at z2
              exact s4 i1 hi1 j hj p' z1 z2
        · intro j hj
          obtain ⟨p', hp', hr'⟩ := hP j hj
          obtain ⟨g1, g2, g3, g4⟩ := f2 (rix nx d j) (by have := @rix_lt nx d j; omega) (by have := @rix_lt nx d j; omega) p' (by unfold slo; rw [if_pos rix_lt]; exact hp')
          exact ⟨p', hp', rTr_fr hr' (fun a h1 h2 => fw a (by omega) (by omega))⟩
        · intro j hj
          by_cases y : j = i
          · subst y
            refine Or.inr ⟨p, by simp [va_up], by rw [upd_eq'], ⟨_, _, _, _, _, _, _, K, N, sTr_is, tRl_row (tRl_cp hR) (fun z hz => ?_)⟩⟩
            rw [mrng_in (by omega) (by omega), show 0 + (59 * j + z - 59 * j) = z by omega]
          · rcases hI j hj with ⟨hn, hk⟩ | ⟨p', hp', hk, hr'⟩
            · left
              refine ⟨by unfold va_up; rw [if_neg y]; exact hn, by rw [upd_ne' y]; exact hk⟩
            · right
              obtain ⟨g1, g2, g3, g4⟩ := f2 (6 + j) (by omega) (by omega) p' (by unfold slo; rw [if_neg (by omega), Nat.add_sub_cancel_left]; exact hp')
              refine ⟨p', by unfold va_up; rw [if_neg y]; exact hp', by rw [upd_ne' y]; exact hk, rTr_fr (rTr_row hr' (fun z hz => ?_)) (fun a h1 h2 => fw a (by omega) (by omega))⟩
              rw [mrng_out (by omega)]
      obtain ⟨rd, tx, pz, tk, ta, va, fa, it, al, ln, fz, fb, be, fo, fm, io, hw, ht, hF⟩ := RM_fr (w' := sTr (va_up w 7 (.inl ((.object "CoinTrack$Track"), 2, .inr (.inr (.inr (.inr (va_up ig i (some p)))))) : gE)) p (gcp kr kr0 30) (gcp ts ts0 18) (gcp co co0 7) (nI K) (nI N) (nw 50) (nw 58)) hM (fun a z1 z2 => fw a (by omega) (by omega)); refine ⟨by rw [hw]; rfl, ?_⟩; rw [hw]
      rw [c6_keep (by omega), r31]
      exact ⟨rfl, LI_mk hRC ht hF⟩
    simp only [eX5_keep_10, eX5_keep_11, eX5_keep_14, eX5_keep_15, Option.toList_some, Option.toList_none, List.cons_append, List.nil_append, gcat_nil, gcat_cons, cat_int, cat_ref, cat_null, cat_ret, cat_long, grc_ref, narZ0, narZ1, true_and, and_true, decide_true, Nat.reduceAdd, Nat.reduceLeDiff, if_true, if_false, eq_self, gfld_in, gobj_in, garr_in, garq_in, glen_in, gisO_in, ex_some, List.getElem?_cons_succ, List.getElem?_cons_zero, List.length_cons, List.length_nil, List.set_cons_succ, List.set_cons_zero, Nat.reduceLT, va_up_eq, va_up_nl, h0, h7, vi, nI_clamp (show i < 2 ^ 31 by omega)]
    cases hg : ig i with
    | some p =>
      obtain ⟨q1, q2, q3, ⟨kr0, ts0, co0, kc0, tc0, rm0, jm0, hi⟩⟩ := s3 (6 + i) (by omega) p (by rw [slx]; exact hg)
      simp only [va_rf_some, eX5_keep_16, eX5_keep_16b, Option.toList_some, Option.toList_none, List.cons_append, List.nil_append, gcat_nil, gcat_cons, cat_int, cat_ref, cat_null, cat_ret, cat_long, grc_ref, narZ0, narZ1, true_and, and_true, decide_true, Nat.reduceAdd, Nat.reduceLeDiff, if_true, if_false, eq_self, gfld_in, gobj_in, garr_in, garq_in, glen_in, gisO_in, ex_some, List.getElem?_cons_succ, List.getElem?_cons_zero, List.length_cons, List.length_nil, List.set_cons_succ, List.set_cons_zero, Nat.reduceLT, va_up_eq, va_up_nl]
      have := tail p n k kr0 ts0 co0 kc0 tc0 rm0 jm0 (Or.inl ⟨hg, rfl, rfl⟩)
      rw [upo_self hg, up_self h7, sTr_self hi] at this
      exact this
    | none =>
      have t := tail n (n + 4) (k + 62) (fun _ => 0) (fun _ => 0) (fun _ => 0) 0 0 20 (-9) (Or.inr ⟨hg, rfl, rfl, rfl⟩)
      have hin : ∀ {k : Nat} {Q : Option Value → Nat → Nat → gH → Prop}, gEv (gT X) 42 0 [.ref n] [] (n + 1) k (va_up w n (.inr (3, [.null, .null, .null, .int 0, .int 0, .int 0, .int 0]))) Q ↔ Q none (n + 4) (k + 55) (sTr w n (fun _ => 0) (fun _ => 0) (fun _ => 0) 0 0 20 (-9)) := by
        intro k Q
        rw [c_TrackInit (by simp [va_up]), sTr_in (by omega)]
      have u7 : ∀ {e : gE}, va_up (sTr w n (fun _ => 0) (fun _ => 0) (fun _ => 0) 0 0 20 (-9)) 7 e = sTr (va_up w 7 e) n (fun _ => 0) (fun _ => 0) (fun _ => 0) 0 0 20 (-9) := sTr_up (by omega)
      have s7 : sTr w n (fun _ => 0) (fun _ => 0) (fun _ => 0) 0 0 20 (-9) 7 = (.inl ((.object "CoinTrack$Track"), 2, .inr (.inr (.inr (.inr (ig))))) : gE) := by rw [sTr_ne (by omega), h7]
      have ge : gobj 3 (sTr w n (fun _ => 0) (fun _ => 0) (fun _ => 0) 0 0 20 (-9) n) = some [.ref (n + 1), .ref (n + 2), .ref (n + 3), .int 0, .int 0, .int 20, .int (-9)] := by rw [sTr_0]; rfl
      simp only [va_rf_none, eX5_keep_16, eX5_keep_16b, eX5_keep_19, eX5_keep_20, eX5_keep_23, eX5_keep_24, eX5_keep_27, eX5_keep_27b, eX5_keep_28, eX5_keep_31, Option.toList_some, Option.toList_none, List.cons_append, List.nil_append, gcat_nil, gcat_cons, cat_int, cat_ref, cat_null, cat_ret, cat_long, grc_ref, narZ0, narZ1, true_and, and_true, decide_true, Nat.reduceAdd, Nat.reduceLeDiff, if_true, if_false, eq_self, gfld_in, gobj_in, garr_in, garq_in, glen_in, gisO_in, ex_some, List.getElem?_cons_succ, List.getElem?_cons_zero, List.length_cons, List.length_nil, List.set_cons_succ, List.set_cons_zero, Nat.reduceLT, va_up_eq, va_up_nl, h0, h7, gisO_any, hin, Nat.add_assoc, ge, s7, vi, nI_clamp (show i < 2 ^ 31 by omega), u7, exists_and_left, exists_eq_left', Option.some.injEq]
      exact t
  · rw [if_neg (fun z => z q)]
    simp only [eX5_keep_8, eX5_keep_9, Option.toList_some, Option.toList_none, List.cons_append, List.nil_append, gcat_nil, gcat_cons, cat_int, cat_ref, cat_null, cat_ret, cat_long, grc_ref, narZ0, narZ1, true_and, and_true, decide_true, Nat.reduceAdd, Nat.reduceLeDiff, if_true, if_false, eq_self, gfld_in, gobj_in, garr_in, garq_in, glen_in, gisO_in, ex_some, List.getElem?_cons_succ, List.getElem?_cons_zero, List.length_cons, List.length_nil, List.set_cons_succ, List.set_cons_zero, Nat.reduceLT, va_up_eq, va_up_nl]
    refine ⟨_, rfl, ?_⟩
    obtain ⟨rd, tx, pz, tk, ta, va, fa, it, al, ln, fz, fb, be, fo, fm, io, hw, ht, hF⟩ := hM; refine ⟨by rw [hw]; rfl, ?_⟩; rw [hw]
    rw [c6_keep_bad q]
    exact ⟨rfl, LI_mk hC ht hF⟩
theorem s_test (hL : LI w n k) {a f : Int32} : GG X 97 162 [.ref 0, .int a, .int f] [.ref 24, .int a, .int f] n k w := by
  obtain ⟨nw, ps, d, im, ik, tv, l, S, Fk, Fx, Fb, hC, hM⟩ := hL
  have hC' := hC
  obtain ⟨h0, ⟨kr, ts, co, kc, tc, rm, jm, K, N, hT, hR⟩, hH, hTe, hPl, hWi⟩ := hC'
  have hR' := hR
  obtain ⟨hK, hN, r0, e1, r31, e2, rk, rt, e3, rc, e4, hrg⟩ := hR'
  subst e1; subst e2; subst e3; subst e4
  have h1 : w 1 = .inr (3, [.ref 2, .ref 3, .ref 4, .int (nI K), .int (nI N), .int (nw 50), .int (nw 58)]) := hT.1
  have hd6 : d ≤ 6 := by obtain ⟨_, _, _, _, _, _, _, h, _⟩ := hH; exact h
  have g5 : gisO 0 (w 5) = true := by obtain ⟨nx, rg, ig, h5, _⟩ := hH; rw [h5]; rfl
  unfold GG
  have bad : ¬ ((0 ≤ a ∧ a < nI N) ∧ 0 ≤ f ∧ f ≤ 2) → gEv (gT X) 97 32 [.ref 0, .int a, .int f] [] n k w (fun v n1 k1 w1 => ∃ y, v = some (.int y) ∧ gisO 6 (w1 24) = true ∧ gEv (gT X) 162 0 [.ref 24, .int a, .int f] [] n1 k1 w1 (fun v2 n2 k2 w2 => v2 = some (.int y) ∧ LI w2 n2 k2)) := by
    intro q
    simp only [eX5_test_32, eX5_test_33, Option.toList_some, Option.toList_none, List.cons_append, List.nil_append, gcat_nil, gcat_cons, cat_int, cat_ref, cat_null, cat_ret, cat_long, grc_ref, narZ0, narZ1, true_and, and_true, decide_true, Nat.reduceAdd, Nat.reduceLeDiff, if_true, if_false, eq_self, gfld_in, gobj_in, garr_in, garq_in, glen_in, gisO_in, ex_some, List.getElem?_cons_succ, List.getElem?_cons_zero, List.length_cons, List.length_nil, List.set_cons_succ, List.set_cons_zero, Nat.reduceLT, va_up_eq, va_up_nl]
    refine ⟨_, rfl, ?_⟩
    obtain ⟨rd, tx, pz, tk, ta, va, fa, it, al, ln, fz, fb, be, fo, fm, io, hw, ht, hF⟩ := hM; refine ⟨by rw [hw]; rfl, ?_⟩; rw [hw]
    rw [c6_test_bad hN r31 q]
    exact ⟨rfl, LI_mk hC ht hF⟩
  simp only [eX5_test_0, eX5_test_1, eX5_test_4, eX5_test_5, eX5_test_8, Option.toList_some, Option.toList_none, List.cons_append, List.nil_append, gcat_nil, gcat_cons, cat_int, cat_ref, cat_null, cat_ret, cat_long, grc_ref, narZ0, narZ1, true_and, and_true, decide_true, Nat.reduceAdd, Nat.reduceLeDiff, if_true, if_false, eq_self, gfld_in, gobj_in, garr_in, garq_in, glen_in, gisO_in, ex_some, List.getElem?_cons_succ, List.getElem?_cons_zero, List.length_cons, List.length_nil, List.set_cons_succ, List.set_cons_zero, Nat.reduceLT, va_up_eq, va_up_nl, h0, h1, c_hasTest hT, gb_0]
  by_cases q : 0 ≤ a ∧ a < nI N
  · rw [if_neg (fun z => z q)]
    simp only [eX5_test_11, eX5_test_12, eX5_test_13, eX5_test_14, eX5_test_17, Option.toList_some, Option.toList_none, List.cons_append, List.nil_append, gcat_nil, gcat_cons, cat_int, cat_ref, cat_null, cat_ret, cat_long, grc_ref, narZ0, narZ1, true_and, and_true, decide_true, Nat.reduceAdd, Nat.reduceLeDiff, if_true, if_false, eq_self, gfld_in, gobj_in, garr_in, garq_in, glen_in, gisO_in, ex_some, List.getElem?_cons_succ, List.getElem?_cons_zero, List.length_cons, List.length_nil, List.set_cons_succ, List.set_cons_zero, Nat.reduceLT, va_up_eq, va_up_nl, c_within, gb_0]
    by_cases q2 : 0 ≤ f ∧ f ≤ 2
    · rw [if_neg (fun z => z q2)]
      obtain ⟨t, hb, hb2⟩ : ∃ t, a = nI t ∧ t < N := by
        rcases pk_ix a (n := N) (by omega) with z | z | ⟨j, hj, e⟩
        · exact absurd q.1 (Int32.not_le.mpr z)
        · exact absurd q.2 (Int32.not_lt.mpr z)
        · exact ⟨j, e, hj⟩
      obtain ⟨g, hg, _, hg2⟩ := inR_of (lo := 0) (hi := 2) (by omega) (by omega) q2
      subst hb
      subst hg
      have e0 : gof ts 18 (nI t * 3 + nI g) = nw (3 * t + 32 + g) := by rw [nI3, nI_add, gof_at (by omega) (by omega), rt t hb2 g (by omega)]; congr 1; omega
      simp only [eX5_test_20, eX5_test_21, eX5_test_24, eX5_test_25, eX5_test_26, eX5_test_29, eX5_test_33, Option.toList_some, Option.toList_none, List.cons_append, List.nil_append, gcat_nil, gcat_cons, cat_int, cat_ref, cat_null, cat_ret, cat_long, grc_ref, narZ0, narZ1, true_and, and_true, decide_true, Nat.reduceAdd, Nat.reduceLeDiff, if_true, if_false, eq_self, gfld_in, gobj_in, garr_in, garq_in, glen_in, gisO_in, ex_some, List.getElem?_cons_succ, List.getElem?_cons_zero, List.length_cons, List.length_nil, List.set_cons_succ, List.set_cons_zero, Nat.reduceLT, va_up_eq, va_up_nl, h0, h1, c_ofTest hT, e0]
      refine ⟨_, rfl, ?_⟩
      obtain ⟨rd, tx, pz, tk, ta, va, fa, it, al, ln, fz, fb, be, fo, fm, io, hw, ht, hF⟩ := hM; refine ⟨by rw [hw]; rfl, ?_⟩; rw [hw]
      rw [c6_test hN r31 hb2 (by omega)]
      exact ⟨rfl, LI_mk hC ht hF⟩
    · rw [if_pos q2]
      exact bad (fun z => q2 z.2)
  · rw [if_pos q]
    exact bad (fun z => q z.1)
end IA
