/-! THE DEEDS -/
section DA
variable {X : gX} {w : gH} {n k : Nat}
theorem s1_0 {kr ts co : Nat → Int32} {kc tc rm jm : Int32} : sTr w 1 kr ts co kc tc rm jm 1 = .inr (3, [.ref 2, .ref 3, .ref 4, .int kc, .int tc, .int rm, .int jm]) := sTr_0
theorem s1_p0 {kr ts co : Nat → Int32} {kc tc rm jm a b c d : Int32} : va_up (sTr w 1 kr ts co kc tc rm jm) 1 (.inr (3, [.ref 2, .ref 3, .ref 4, .int a, .int b, .int c, .int d])) = sTr w 1 kr ts co a b c d := sTr_p0
theorem s_frees (hL : LI w n k) : GG X 89 151 [.ref 0, .null] [.ref 24, .null] n k w := by
  obtain ⟨nw, ps, d, im, ik, tv, l, S, Fk, Fx, Fb, hC, hM⟩ := hL
  have hC' := hC
  obtain ⟨h0, ⟨kr, ts, co, kc, tc, rm, jm, K, N, hT, hR⟩, hH, hTe, hPl, hWi⟩ := hC'
  have hR' := hR
  obtain ⟨hK, hN, r0, e1, r31, e2, rk, rt, e3, rc, e4, hrg⟩ := hR'
  subst e1; subst e2; subst e3; subst e4
  have h1 : w 1 = .inr (3, [.ref 2, .ref 3, .ref 4, .int (nI K), .int (nI N), .int (nw 50), .int (nw 58)]) := hT.1
  have hd6 : d ≤ 6 := by obtain ⟨_, _, _, _, _, _, _, h, _⟩ := hH; exact h
  have g5 : gisO 0 (w 5) = true := by obtain ⟨nx, rg, ig, h5, _⟩ := hH; rw [h5]; rfl
  unfold GG
  simp only [eX5_frees_0, eX5_frees_1, eX5_frees_4, eX5_frees_7, eX5_frees_9, Option.toList_some, Option.toList_none, List.cons_append, List.nil_append, gcat_nil, gcat_cons, cat_int, cat_ref, cat_null, cat_ret, cat_long, grc_ref, narZ0, narZ1, true_and, and_true, decide_true, Nat.reduceAdd, Nat.reduceLeDiff, if_true, if_false, eq_self, gfld_in, gobj_in, garr_in, garq_in, glen_in, gisO_in, ex_some, List.getElem?_cons_succ, List.getElem?_cons_zero, List.length_cons, List.length_nil, List.set_cons_succ, List.set_cons_zero, Nat.reduceLT, va_up_eq, va_up_nl, h0, h1]
  by_cases q : nw 58 = -9
  · rw [if_neg (fun z => z q)]
    simp only [eX5_frees_12, eX5_frees_14, Option.toList_some, Option.toList_none, List.cons_append, List.nil_append, gcat_nil, gcat_cons, cat_int, cat_ref, cat_null, cat_ret, cat_long, grc_ref, narZ0, narZ1, true_and, and_true, decide_true, Nat.reduceAdd, Nat.reduceLeDiff, if_true, if_false, eq_self, gfld_in, gobj_in, garr_in, garq_in, glen_in, gisO_in, ex_some, List.getElem?_cons_succ, List.getElem?_cons_zero, List.length_cons, List.length_nil, List.set_cons_succ, List.set_cons_zero, Nat.reduceLT, va_up_eq, va_up_nl]
    refine ⟨_, rfl, ?_⟩
    obtain ⟨rd, tx, pz, tk, ta, va, fa, it, al, ln, fz, fb, be, fo, fm, io, hw, ht, hF⟩ := hM; refine ⟨by rw [hw]; rfl, ?_⟩; rw [hw]
    rw [c6_frees hd6, if_pos q]
    exact ⟨rfl, LI_mk hC ht hF⟩
  · rw [if_pos q]
    simp only [eX5_frees_15, eX5_frees_16, eX5_frees_19, eX5_frees_20, eX5_frees_23, Option.toList_some, Option.toList_none, List.cons_append, List.nil_append, gcat_nil, gcat_cons, cat_int, cat_ref, cat_null, cat_ret, cat_long, grc_ref, narZ0, narZ1, true_and, and_true, decide_true, Nat.reduceAdd, Nat.reduceLeDiff, if_true, if_false, eq_self, gfld_in, gobj_in, garr_in, garq_in, glen_in, gisO_in, ex_some, List.getElem?_cons_succ, List.getElem?_cons_zero, List.length_cons, List.length_nil, List.set_cons_succ, List.set_cons_zero, Nat.reduceLT, va_up_eq, va_up_nl, h0, g5]
    refine r_remember hH hT hR ?_
    intro w1 n1 k1 hH1 hf
    have hT1 : isTr w1 1 kr ts co (nI K) (nI N) (nw 50) (nw 58) := isTr_fr hT (fun a q1 q2 => hf a (by omega) (by omega) (by omega))
    have hs1 : sTr w1 1 kr ts co (nI K) (nI N) (nw 50) (nw 58) = w1 := sTr_self hT1
    have c0 : ∀ {kr ts co : Nat → Int32} {kc tc rm jm : Int32}, sTr w1 1 kr ts co kc tc rm jm 0 = (.inr (5, [.ref 1, .ref 5, .ref 7, .ref 8, .ref 15, .ref 20]) : gE) := by intros; rw [sTr_ne (by omega), hf 0 (by omega) (by omega) (by omega), h0]
    rw [← hs1]
    simp only [eX5_frees_26, eX5_frees_27, eX5_frees_30, eX5_frees_33, eX5_frees_33b, eX5_frees_33c, eX5_frees_33d, eX5_frees_34, eX5_frees_35, eX5_frees_38, eX5_frees_40, eX5_frees_43, eX5_frees_44, Option.toList_some, Option.toList_none, List.cons_append, List.nil_append, gcat_nil, gcat_cons, cat_int, cat_ref, cat_null, cat_ret, cat_long, grc_ref, narZ0, narZ1, true_and, and_true, decide_true, Nat.reduceAdd, Nat.reduceLeDiff, if_true, if_false, eq_self, gfld_in, gobj_in, garr_in, garq_in, glen_in, gisO_in, ex_some, List.getElem?_cons_succ, List.getElem?_cons_zero, List.length_cons, List.length_nil, List.set_cons_succ, List.set_cons_zero, Nat.reduceLT, va_up_eq, va_up_nl, c0, s1_0, s1_p0]
    refine ⟨_, rfl, ?_⟩
    obtain ⟨rd, tx, pz, tk, ta, va, fa, it, al, ln, fz, fb, be, fo, fm, io, hw, ht, hF⟩ := RM_deed (kr := kr) (ts := ts) (co := co) (kc := nI K) (tc := nI N) (rm := nw 50) (jm := -9) hM hf; refine ⟨by rw [hw]; rfl, ?_⟩; rw [hw]
    rw [c6_frees hd6, if_neg q]
    refine ⟨rfl, LI_mk (d := hmn d) (RC_deed hC hH1 hf (tRl_hi hR ?_ ?_ ?_ ?_)) ht hF⟩
    · intro z hz; rw [upd_ne' (by omega)]
    · rw [upd_ne' (by omega)]
    · intro b hb; rw [upd_ne' (by omega), rc b hb]
    · rw [upd_eq']
theorem s_empties (hL : LI w n k) {a : Int32} : GG X 90 153 [.ref 0, .int a, .null] [.ref 24, .int a, .null] n k w := by
  obtain ⟨nw, ps, d, im, ik, tv, l, S, Fk, Fx, Fb, hC, hM⟩ := hL
  have hC' := hC
  obtain ⟨h0, ⟨kr, ts, co, kc, tc, rm, jm, K, N, hT, hR⟩, hH, hTe, hPl, hWi⟩ := hC'
  have hR' := hR
  obtain ⟨hK, hN, r0, e1, r31, e2, rk, rt, e3, rc, e4, hrg⟩ := hR'
  subst e1; subst e2; subst e3; subst e4
  have h1 : w 1 = .inr (3, [.ref 2, .ref 3, .ref 4, .int (nI K), .int (nI N), .int (nw 50), .int (nw 58)]) := hT.1
  have hd6 : d ≤ 6 := by obtain ⟨_, _, _, _, _, _, _, h, _⟩ := hH; exact h
  have g5 : gisO 0 (w 5) = true := by obtain ⟨nx, rg, ig, h5, _⟩ := hH; rw [h5]; rfl
  unfold GG
  simp only [eX5_empties_0, eX5_empties_1, eX5_empties_4, eX5_empties_5, eX5_empties_8, Option.toList_some, Option.toList_none, List.cons_append, List.nil_append, gcat_nil, gcat_cons, cat_int, cat_ref, cat_null, cat_ret, cat_long, grc_ref, narZ0, narZ1, true_and, and_true, decide_true, Nat.reduceAdd, Nat.reduceLeDiff, if_true, if_false, eq_self, gfld_in, gobj_in, garr_in, garq_in, glen_in, gisO_in, ex_some, List.getElem?_cons_succ, List.getElem?_cons_zero, List.length_cons, List.length_nil, List.set_cons_succ, List.set_cons_zero, Nat.reduceLT, va_up_eq, va_up_nl, h0, h1, c_hasBin hT, gb_0]
  by_cases q : 0 ≤ a ∧ a ≤ nI N
  · rw [if_pos (fun z => z q)]
    obtain ⟨b, hb, _, hb2⟩ := inR_of (lo := 0) (hi := N) (by omega) (by omega) q
    subst hb
    have e0 : gof co 7 (nI b) = nw (51 + b) := by rw [gof_at (by omega) (by omega), rc b (by omega)]
    simp only [eX5_empties_13, eX5_empties_14, eX5_empties_17, eX5_empties_18, eX5_empties_21, eX5_empties_21b, eX5_empties_21c, eX5_empties_21d, eX5_empties_22, eX5_empties_23, Option.toList_some, Option.toList_none, List.cons_append, List.nil_append, gcat_nil, gcat_cons, cat_int, cat_ref, cat_null, cat_ret, cat_long, grc_ref, narZ0, narZ1, true_and, and_true, decide_true, Nat.reduceAdd, Nat.reduceLeDiff, if_true, if_false, eq_self, gfld_in, gobj_in, garr_in, garq_in, glen_in, gisO_in, ex_some, List.getElem?_cons_succ, List.getElem?_cons_zero, List.length_cons, List.length_nil, List.set_cons_succ, List.set_cons_zero, Nat.reduceLT, va_up_eq, va_up_nl, h0, h1, c_coinsIn hT, e0]
    by_cases q2 : nw (51 + b) = 0
    · rw [if_neg (fun z => z q2)]
      simp only [eX5_empties_26, eX5_empties_28, Option.toList_some, Option.toList_none, List.cons_append, List.nil_append, gcat_nil, gcat_cons, cat_int, cat_ref, cat_null, cat_ret, cat_long, grc_ref, narZ0, narZ1, true_and, and_true, decide_true, Nat.reduceAdd, Nat.reduceLeDiff, if_true, if_false, eq_self, gfld_in, gobj_in, garr_in, garq_in, glen_in, gisO_in, ex_some, List.getElem?_cons_succ, List.getElem?_cons_zero, List.length_cons, List.length_nil, List.set_cons_succ, List.set_cons_zero, Nat.reduceLT, va_up_eq, va_up_nl]
      refine ⟨_, rfl, ?_⟩
      obtain ⟨rd, tx, pz, tk, ta, va, fa, it, al, ln, fz, fb, be, fo, fm, io, hw, ht, hF⟩ := hM; refine ⟨by rw [hw]; rfl, ?_⟩; rw [hw]
      rw [c6_empties hN r31 hd6 hb2, if_pos q2]
      exact ⟨rfl, LI_mk hC ht hF⟩
    · rw [if_pos q2]
      simp only [eX5_empties_29, eX5_empties_30, eX5_empties_33, eX5_empties_34, eX5_empties_37, Option.toList_some, Option.toList_none, List.cons_append, List.nil_append, gcat_nil, gcat_cons, cat_int, cat_ref, cat_null, cat_ret, cat_long, grc_ref, narZ0, narZ1, true_and, and_true, decide_true, Nat.reduceAdd, Nat.reduceLeDiff, if_true, if_false, eq_self, gfld_in, gobj_in, garr_in, garq_in, glen_in, gisO_in, ex_some, List.getElem?_cons_succ, List.getElem?_cons_zero, List.length_cons, List.length_nil, List.set_cons_succ, List.set_cons_zero, Nat.reduceLT, va_up_eq, va_up_nl, h0, g5]
      refine r_remember hH hT hR ?_
      intro w1 n1 k1 hH1 hf
      have hT1 : isTr w1 1 kr ts co (nI K) (nI N) (nw 50) (nw 58) := isTr_fr hT (fun a q1 q2 => hf a (by omega) (by omega) (by omega))
      have hs1 : sTr w1 1 kr ts co (nI K) (nI N) (nw 50) (nw 58) = w1 := sTr_self hT1
      have c0 : ∀ {kr ts co : Nat → Int32} {kc tc rm jm : Int32}, sTr w1 1 kr ts co kc tc rm jm 0 = (.inr (5, [.ref 1, .ref 5, .ref 7, .ref 8, .ref 15, .ref 20]) : gE) := by intros; rw [sTr_ne (by omega), hf 0 (by omega) (by omega) (by omega), h0]
      rw [← hs1]
      simp only [eX5_empties_40, eX5_empties_41, eX5_empties_44, eX5_empties_45, eX5_empties_48, eX5_empties_49, Option.toList_some, Option.toList_none, List.cons_append, List.nil_append, gcat_nil, gcat_cons, cat_int, cat_ref, cat_null, cat_ret, cat_long, grc_ref, narZ0, narZ1, true_and, and_true, decide_true, Nat.reduceAdd, Nat.reduceLeDiff, if_true, if_false, eq_self, gfld_in, gobj_in, garr_in, garq_in, glen_in, gisO_in, ex_some, List.getElem?_cons_succ, List.getElem?_cons_zero, List.length_cons, List.length_nil, List.set_cons_succ, List.set_cons_zero, Nat.reduceLT, va_up_eq, va_up_nl, c0, s1_0, c_emptyBin]
      rw [gup_at (by omega) (by omega)]
      refine ⟨_, rfl, ?_⟩
      obtain ⟨rd, tx, pz, tk, ta, va, fa, it, al, ln, fz, fb, be, fo, fm, io, hw, ht, hF⟩ := RM_deed (kr := kr) (ts := ts) (co := upd co b 0) (kc := nI K) (tc := nI N) (rm := nw 50) (jm := nw 58) hM hf; refine ⟨by rw [hw]; rfl, ?_⟩; rw [hw]
      rw [c6_empties hN r31 hd6 hb2, if_neg q2]
      refine ⟨rfl, LI_mk (d := hmn d) (RC_deed hC hH1 hf (tRl_hi hR ?_ ?_ ?_ ?_)) ht hF⟩
      · intro z hz; rw [upd_ne' (by omega)]
      · rw [upd_ne' (by omega)]
      · intro b' hb'
        unfold upd
        by_cases y : b' = b
        · rw [if_pos y, if_pos (by omega)]
        · rw [if_neg y, if_neg (by omega), rc b' hb']
      · rw [upd_ne' (by omega)]
  · rw [if_neg (fun z => z q)]
    simp only [eX5_empties_11, eX5_empties_12, Option.toList_some, Option.toList_none, List.cons_append, List.nil_append, gcat_nil, gcat_cons, cat_int, cat_ref, cat_null, cat_ret, cat_long, grc_ref, narZ0, narZ1, true_and, and_true, decide_true, Nat.reduceAdd, Nat.reduceLeDiff, if_true, if_false, eq_self, gfld_in, gobj_in, garr_in, garq_in, glen_in, gisO_in, ex_some, List.getElem?_cons_succ, List.getElem?_cons_zero, List.length_cons, List.length_nil, List.set_cons_succ, List.set_cons_zero, Nat.reduceLT, va_up_eq, va_up_nl]
    refine ⟨_, rfl, ?_⟩
    obtain ⟨rd, tx, pz, tk, ta, va, fa, it, al, ln, fz, fb, be, fo, fm, io, hw, ht, hF⟩ := hM; refine ⟨by rw [hw]; rfl, ?_⟩; rw [hw]
    rw [c6_empties_bad r31 q]
    exact ⟨rfl, LI_mk hC ht hF⟩
theorem s_takes (hL : LI w n k) {a : Int32} : GG X 92 156 [.ref 0, .int a] [.ref 24, .int a, .null] n k w := by
  obtain ⟨nw, ps, d, im, ik, tv, l, S, Fk, Fx, Fb, hC, hM⟩ := hL
  have hC' := hC
  obtain ⟨h0, ⟨kr, ts, co, kc, tc, rm, jm, K, N, hT, hR⟩, hH, hTe, hPl, hWi⟩ := hC'
  have hR' := hR
  obtain ⟨hK, hN, r0, e1, r31, e2, rk, rt, e3, rc, e4, hrg⟩ := hR'
  subst e1; subst e2; subst e3; subst e4
  have h1 : w 1 = .inr (3, [.ref 2, .ref 3, .ref 4, .int (nI K), .int (nI N), .int (nw 50), .int (nw 58)]) := hT.1
  have hd6 : d ≤ 6 := by obtain ⟨_, _, _, _, _, _, _, h, _⟩ := hH; exact h
  have g5 : gisO 0 (w 5) = true := by obtain ⟨nx, rg, ig, h5, _⟩ := hH; rw [h5]; rfl
  unfold GG
  simp only [eX5_takes_0, eX5_takes_1, eX5_takes_4, eX5_takes_5, eX5_takes_8, Option.toList_some, Option.toList_none, List.cons_append, List.nil_append, gcat_nil, gcat_cons, cat_int, cat_ref, cat_null, cat_ret, cat_long, grc_ref, narZ0, narZ1, true_and, and_true, decide_true, Nat.reduceAdd, Nat.reduceLeDiff, if_true, if_false, eq_self, gfld_in, gobj_in, garr_in, garq_in, glen_in, gisO_in, ex_some, List.getElem?_cons_succ, List.getElem?_cons_zero, List.length_cons, List.length_nil, List.set_cons_succ, List.set_cons_zero, Nat.reduceLT, va_up_eq, va_up_nl, h0, h1, c_hasTest hT, gb_0]
  by_cases q : 0 ≤ a ∧ a < nI N
  · rw [if_pos (fun z => z q)]
    obtain ⟨t, htt⟩ : ∃ t, a = nI t ∧ t < N := by
      rcases pk_ix a (n := N) (by omega) with z | z | ⟨j, hj, e⟩
      · exact absurd q.1 (Int32.not_le.mpr z)
      · exact absurd q.2 (Int32.not_lt.mpr z)
      · exact ⟨j, e, hj⟩
    obtain ⟨hb, hb2⟩ := htt
    subst hb
    simp only [eX5_takes_13, eX5_takes_14, eX5_takes_17, eX5_takes_18, eX5_takes_21, Option.toList_some, Option.toList_none, List.cons_append, List.nil_append, gcat_nil, gcat_cons, cat_int, cat_ref, cat_null, cat_ret, cat_long, grc_ref, narZ0, narZ1, true_and, and_true, decide_true, Nat.reduceAdd, Nat.reduceLeDiff, if_true, if_false, eq_self, gfld_in, gobj_in, garr_in, garq_in, glen_in, gisO_in, ex_some, List.getElem?_cons_succ, List.getElem?_cons_zero, List.length_cons, List.length_nil, List.set_cons_succ, List.set_cons_zero, Nat.reduceLT, va_up_eq, va_up_nl, h0, g5]
    refine r_remember hH hT hR ?_
    intro w1 n1 k1 hH1 hf
    have hT1 : isTr w1 1 kr ts co (nI K) (nI N) (nw 50) (nw 58) := isTr_fr hT (fun a q1 q2 => hf a (by omega) (by omega) (by omega))
    have hs1 : sTr w1 1 kr ts co (nI K) (nI N) (nw 50) (nw 58) = w1 := sTr_self hT1
    have c0 : ∀ {kr ts co : Nat → Int32} {kc tc rm jm : Int32}, sTr w1 1 kr ts co kc tc rm jm 0 = (.inr (5, [.ref 1, .ref 5, .ref 7, .ref 8, .ref 15, .ref 20]) : gE) := by intros; rw [sTr_ne (by omega), hf 0 (by omega) (by omega) (by omega), h0]
    rw [← hs1]
    simp only [eX5_takes_24, eX5_takes_25, eX5_takes_28, eX5_takes_29, eX5_takes_32, eX5_takes_33, eX5_takes_36, eX5_takes_39, eX5_takes_40, eX5_takes_43, eX5_takes_46, Option.toList_some, Option.toList_none, List.cons_append, List.nil_append, gcat_nil, gcat_cons, cat_int, cat_ref, cat_null, cat_ret, cat_long, grc_ref, narZ0, narZ1, true_and, and_true, decide_true, Nat.reduceAdd, Nat.reduceLeDiff, if_true, if_false, eq_self, gfld_in, gobj_in, garr_in, garq_in, glen_in, gisO_in, ex_some, List.getElem?_cons_succ, List.getElem?_cons_zero, List.length_cons, List.length_nil, List.set_cons_succ, List.set_cons_zero, Nat.reduceLT, va_up_eq, va_up_nl, c0, s1_0, c_removeTest hN hb2, c_emptyAll]
    have er := rem_eq (ts := ts) hN hb2 (N - 1 - t) t (Nat.le_refl _) (by omega)
    rw [mrng_nil] at er
    rw [er]
    refine ⟨_, rfl, ?_⟩
    obtain ⟨rd, tx, pz, tk, ta, va, fa, it, al, ln, fz, fb, be, fo, fm, io, hw, ht, hF⟩ := RM_deed (kr := kr) (ts := mrng (3 * t) (3 * (N - 1)) (fun z => ts (z + 3)) ts) (co := gz co) (kc := nI K) (tc := nI (N - 1)) (rm := nw 50) (jm := -9) hM hf; refine ⟨by rw [hw]; rfl, ?_⟩; rw [hw]
    rw [c6_takes hN r31 hd6 hb2]
    exact ⟨rfl, LI_mk (d := hmn d) (RC_deed hC hH1 hf (tRl_takes hR hb2)) ht hF⟩
  · rw [if_neg (fun z => z q)]
    simp only [eX5_takes_11, eX5_takes_12, Option.toList_some, Option.toList_none, List.cons_append, List.nil_append, gcat_nil, gcat_cons, cat_int, cat_ref, cat_null, cat_ret, cat_long, grc_ref, narZ0, narZ1, true_and, and_true, decide_true, Nat.reduceAdd, Nat.reduceLeDiff, if_true, if_false, eq_self, gfld_in, gobj_in, garr_in, garq_in, glen_in, gisO_in, ex_some, List.getElem?_cons_succ, List.getElem?_cons_zero, List.length_cons, List.length_nil, List.set_cons_succ, List.set_cons_zero, Nat.reduceLT, va_up_eq, va_up_nl]
    refine ⟨_, rfl, ?_⟩
    obtain ⟨rd, tx, pz, tk, ta, va, fa, it, al, ln, fz, fb, be, fo, fm, io, hw, ht, hF⟩ := hM; refine ⟨by rw [hw]; rfl, ?_⟩; rw [hw]
    rw [c6_takes_bad hN r31 q]
    exact ⟨rfl, LI_mk hC ht hF⟩
theorem s_sets (hL : LI w n k) {a b : Int32} : GG X 93 157 [.ref 0, .int a, .int b, .null] [.ref 24, .int a, .int b, .null] n k w := by
  obtain ⟨nw, ps, d, im, ik, tv, l, S, Fk, Fx, Fb, hC, hM⟩ := hL
  have hC' := hC
  obtain ⟨h0, ⟨kr, ts, co, kc, tc, rm, jm, K, N, hT, hR⟩, hH, hTe, hPl, hWi⟩ := hC'
  have hR' := hR
  obtain ⟨hK, hN, r0, e1, r31, e2, rk, rt, e3, rc, e4, hrg⟩ := hR'
  subst e1; subst e2; subst e3; subst e4
  have h1 : w 1 = .inr (3, [.ref 2, .ref 3, .ref 4, .int (nI K), .int (nI N), .int (nw 50), .int (nw 58)]) := hT.1
  have hd6 : d ≤ 6 := by obtain ⟨_, _, _, _, _, _, _, h, _⟩ := hH; exact h
  have g5 : gisO 0 (w 5) = true := by obtain ⟨nx, rg, ig, h5, _⟩ := hH; rw [h5]; rfl
  unfold GG
  simp only [eX5_sets_0, eX5_sets_1, eX5_sets_4, eX5_sets_5, eX5_sets_8, Option.toList_some, Option.toList_none, List.cons_append, List.nil_append, gcat_nil, gcat_cons, cat_int, cat_ref, cat_null, cat_ret, cat_long, grc_ref, narZ0, narZ1, true_and, and_true, decide_true, Nat.reduceAdd, Nat.reduceLeDiff, if_true, if_false, eq_self, gfld_in, gobj_in, garr_in, garq_in, glen_in, gisO_in, ex_some, List.getElem?_cons_succ, List.getElem?_cons_zero, List.length_cons, List.length_nil, List.set_cons_succ, List.set_cons_zero, Nat.reduceLT, va_up_eq, va_up_nl, h0, h1, c_hasTest hT, gb_0]
  by_cases q : 0 ≤ a ∧ a < nI N
  · rw [if_neg (fun z => z q)]
    obtain ⟨t, htt⟩ : ∃ t, a = nI t ∧ t < N := by
      rcases pk_ix a (n := N) (by omega) with z | z | ⟨j, hj, e⟩
      · exact absurd q.1 (Int32.not_le.mpr z)
      · exact absurd q.2 (Int32.not_lt.mpr z)
      · exact ⟨j, e, hj⟩
    obtain ⟨hb, hb2⟩ := htt
    subst hb
    have e0 : gof ts 18 (nI t * 3 + 0) = nw (3 * t + 32) := by rw [nI3, nIp0, gof_at (by omega) (by omega)]; exact rt t hb2 0 (by omega)
    have e1 : gof ts 18 (nI t * 3 + 1) = nw (3 * t + 33) := by rw [nI3, nI_1, gof_at (by omega) (by omega)]; exact rt t hb2 1 (by omega)
    simp only [eX5_sets_11, eX5_sets_12, eX5_sets_15, eX5_sets_16, eX5_sets_17, eX5_sets_20, eX5_sets_21, eX5_sets_24, Option.toList_some, Option.toList_none, List.cons_append, List.nil_append, gcat_nil, gcat_cons, cat_int, cat_ref, cat_null, cat_ret, cat_long, grc_ref, narZ0, narZ1, true_and, and_true, decide_true, Nat.reduceAdd, Nat.reduceLeDiff, if_true, if_false, eq_self, gfld_in, gobj_in, garr_in, garq_in, glen_in, gisO_in, ex_some, List.getElem?_cons_succ, List.getElem?_cons_zero, List.length_cons, List.length_nil, List.set_cons_succ, List.set_cons_zero, Nat.reduceLT, va_up_eq, va_up_nl, h0, h1, c_ofTest hT, e0, c_boundFits, gb_0]
    by_cases q2 : (if nw (3 * t + 32) = 2 then (0 : Int32) else 1) ≤ b ∧ b ≤ (if nw (3 * t + 32) = 2 then 2 else 99)
    · rw [if_pos (fun z => z q2)]
      simp only [eX5_sets_29, eX5_sets_30, eX5_sets_33, eX5_sets_34, eX5_sets_35, eX5_sets_38, eX5_sets_38b, eX5_sets_38c, eX5_sets_38d, eX5_sets_39, eX5_sets_40, eX5_sets_41, Option.toList_some, Option.toList_none, List.cons_append, List.nil_append, gcat_nil, gcat_cons, cat_int, cat_ref, cat_null, cat_ret, cat_long, grc_ref, narZ0, narZ1, true_and, and_true, decide_true, Nat.reduceAdd, Nat.reduceLeDiff, if_true, if_false, eq_self, gfld_in, gobj_in, garr_in, garq_in, glen_in, gisO_in, ex_some, List.getElem?_cons_succ, List.getElem?_cons_zero, List.length_cons, List.length_nil, List.set_cons_succ, List.set_cons_zero, Nat.reduceLT, va_up_eq, va_up_nl, h0, h1, c_ofTest hT, e1]
      by_cases q3 : nw (3 * t + 33) = b
      · rw [if_neg (fun z => z q3)]
        simp only [eX5_sets_44, eX5_sets_46, Option.toList_some, Option.toList_none, List.cons_append, List.nil_append, gcat_nil, gcat_cons, cat_int, cat_ref, cat_null, cat_ret, cat_long, grc_ref, narZ0, narZ1, true_and, and_true, decide_true, Nat.reduceAdd, Nat.reduceLeDiff, if_true, if_false, eq_self, gfld_in, gobj_in, garr_in, garq_in, glen_in, gisO_in, ex_some, List.getElem?_cons_succ, List.getElem?_cons_zero, List.length_cons, List.length_nil, List.set_cons_succ, List.set_cons_zero, Nat.reduceLT, va_up_eq, va_up_nl]
        refine ⟨_, rfl, ?_⟩
        obtain ⟨rd, tx, pz, tk, ta, va, fa, it, al, ln, fz, fb, be, fo, fm, io, hw, ht, hF⟩ := hM; refine ⟨by rw [hw]; rfl, ?_⟩; rw [hw]
        rw [c6_sets hN r31 hd6 hb2, if_pos q2, if_pos q3]
        exact ⟨rfl, LI_mk hC ht hF⟩
      · rw [if_pos q3]
        simp only [eX5_sets_47, eX5_sets_48, eX5_sets_51, eX5_sets_52, eX5_sets_55, Option.toList_some, Option.toList_none, List.cons_append, List.nil_append, gcat_nil, gcat_cons, cat_int, cat_ref, cat_null, cat_ret, cat_long, grc_ref, narZ0, narZ1, true_and, and_true, decide_true, Nat.reduceAdd, Nat.reduceLeDiff, if_true, if_false, eq_self, gfld_in, gobj_in, garr_in, garq_in, glen_in, gisO_in, ex_some, List.getElem?_cons_succ, List.getElem?_cons_zero, List.length_cons, List.length_nil, List.set_cons_succ, List.set_cons_zero, Nat.reduceLT, va_up_eq, va_up_nl, h0, g5]
        refine r_remember hH hT hR ?_
        intro w1 n1 k1 hH1 hf
        have hT1 : isTr w1 1 kr ts co (nI K) (nI N) (nw 50) (nw 58) := isTr_fr hT (fun a q1 q2 => hf a (by omega) (by omega) (by omega))
        have hs1 : sTr w1 1 kr ts co (nI K) (nI N) (nw 50) (nw 58) = w1 := sTr_self hT1
        have c0 : ∀ {kr ts co : Nat → Int32} {kc tc rm jm : Int32}, sTr w1 1 kr ts co kc tc rm jm 0 = (.inr (5, [.ref 1, .ref 5, .ref 7, .ref 8, .ref 15, .ref 20]) : gE) := by intros; rw [sTr_ne (by omega), hf 0 (by omega) (by omega) (by omega), h0]
        rw [← hs1]
        have hbr : inR b 0 99 := by
          by_cases qs : nw (3 * t + 32) = 2
          · rw [if_pos qs, if_pos qs] at q2
            obtain ⟨m, e, z1, z2⟩ := inR_of (lo := 0) (hi := 2) (by omega) (by omega) q2
            exact ⟨m, e, by omega, by omega⟩
          · rw [if_neg qs, if_neg qs] at q2
            obtain ⟨m, e, z1, z2⟩ := inR_of (lo := 1) (hi := 99) (by omega) (by omega) q2
            exact ⟨m, e, by omega, by omega⟩
        simp only [eX5_sets_58, eX5_sets_59, eX5_sets_62, eX5_sets_63, eX5_sets_64, eX5_sets_65, eX5_sets_68, eX5_sets_69, eX5_sets_72, eX5_sets_75, eX5_sets_76, Option.toList_some, Option.toList_none, List.cons_append, List.nil_append, gcat_nil, gcat_cons, cat_int, cat_ref, cat_null, cat_ret, cat_long, grc_ref, narZ0, narZ1, true_and, and_true, decide_true, Nat.reduceAdd, Nat.reduceLeDiff, if_true, if_false, eq_self, gfld_in, gobj_in, garr_in, garq_in, glen_in, gisO_in, ex_some, List.getElem?_cons_succ, List.getElem?_cons_zero, List.length_cons, List.length_nil, List.set_cons_succ, List.set_cons_zero, Nat.reduceLT, va_up_eq, va_up_nl, c0, s1_0, c_putOfTest, c_emptyAll]
        rw [nI3, nI_1, gup_at (by omega) (by omega)]
        refine ⟨_, rfl, ?_⟩
        obtain ⟨rd, tx, pz, tk, ta, va, fa, it, al, ln, fz, fb, be, fo, fm, io, hw, ht, hF⟩ := RM_deed (kr := kr) (ts := upd ts (3 * t + 1) b) (co := gz co) (kc := nI K) (tc := nI N) (rm := nw 50) (jm := -9) hM hf; refine ⟨by rw [hw]; rfl, ?_⟩; rw [hw]
        rw [c6_sets hN r31 hd6 hb2, if_pos q2, if_neg q3]
        exact ⟨rfl, LI_mk (d := hmn d) (RC_deed hC hH1 hf (tRl_sets hR hb2 hbr)) ht hF⟩
    · rw [if_neg (fun z => z q2)]
      simp only [eX5_sets_27, eX5_sets_28, Option.toList_some, Option.toList_none, List.cons_append, List.nil_append, gcat_nil, gcat_cons, cat_int, cat_ref, cat_null, cat_ret, cat_long, grc_ref, narZ0, narZ1, true_and, and_true, decide_true, Nat.reduceAdd, Nat.reduceLeDiff, if_true, if_false, eq_self, gfld_in, gobj_in, garr_in, garq_in, glen_in, gisO_in, ex_some, List.getElem?_cons_succ, List.getElem?_cons_zero, List.length_cons, List.length_nil, List.set_cons_succ, List.set_cons_zero, Nat.reduceLT, va_up_eq, va_up_nl]
      refine ⟨_, rfl, ?_⟩
      obtain ⟨rd, tx, pz, tk, ta, va, fa, it, al, ln, fz, fb, be, fo, fm, io, hw, ht, hF⟩ := hM; refine ⟨by rw [hw]; rfl, ?_⟩; rw [hw]
      rw [c6_sets hN r31 hd6 hb2, if_neg q2]
      exact ⟨rfl, LI_mk hC ht hF⟩
  · rw [if_pos q]
    simp only [eX5_sets_27, eX5_sets_28, Option.toList_some, Option.toList_none, List.cons_append, List.nil_append, gcat_nil, gcat_cons, cat_int, cat_ref, cat_null, cat_ret, cat_long, grc_ref, narZ0, narZ1, true_and, and_true, decide_true, Nat.reduceAdd, Nat.reduceLeDiff, if_true, if_false, eq_self, gfld_in, gobj_in, garr_in, garq_in, glen_in, gisO_in, ex_some, List.getElem?_cons_succ, List.getElem?_cons_zero, List.length_cons, List.length_nil, List.set_cons_succ, List.set_cons_zero, Nat.reduceLT, va_up_eq, va_up_nl]
    refine ⟨_, rfl, ?_⟩
    obtain ⟨rd, tx, pz, tk, ta, va, fa, it, al, ln, fz, fb, be, fo, fm, io, hw, ht, hF⟩ := hM; refine ⟨by rw [hw]; rfl, ?_⟩; rw [hw]
    rw [c6_sets_bad hN r31 q]
    exact ⟨rfl, LI_mk hC ht hF⟩
theorem s_adds (hL : LI w n k) {a b c r : Int32} : GG X 94 158 [.ref 0, .int a, .int b, .int c, .int r] [.ref 24, .int a, .int b, .int c, .int r, .null] n k w := by
  obtain ⟨nw, ps, d, im, ik, tv, l, S, Fk, Fx, Fb, hC, hM⟩ := hL
  have hC' := hC
  obtain ⟨h0, ⟨kr, ts, co, kc, tc, rm, jm, K, N, hT, hR⟩, hH, hTe, hPl, hWi⟩ := hC'
  have hR' := hR
  obtain ⟨hK, hN, r0, e1, r31, e2, rk, rt, e3, rc, e4, hrg⟩ := hR'
  subst e1; subst e2; subst e3; subst e4
  have h1 : w 1 = .inr (3, [.ref 2, .ref 3, .ref 4, .int (nI K), .int (nI N), .int (nw 50), .int (nw 58)]) := hT.1
  have hd6 : d ≤ 6 := by obtain ⟨_, _, _, _, _, _, _, h, _⟩ := hH; exact h
  have g5 : gisO 0 (w 5) = true := by obtain ⟨nx, rg, ig, h5, _⟩ := hH; rw [h5]; rfl
  unfold GG
  simp only [eX5_adds_0, eX5_adds_1, eX5_adds_2, eX5_adds_3, eX5_adds_6, Option.toList_some, Option.toList_none, List.cons_append, List.nil_append, gcat_nil, gcat_cons, cat_int, cat_ref, cat_null, cat_ret, cat_long, grc_ref, narZ0, narZ1, true_and, and_true, decide_true, Nat.reduceAdd, Nat.reduceLeDiff, if_true, if_false, eq_self, gfld_in, gobj_in, garr_in, garq_in, glen_in, gisO_in, ex_some, List.getElem?_cons_succ, List.getElem?_cons_zero, List.length_cons, List.length_nil, List.set_cons_succ, List.set_cons_zero, Nat.reduceLT, va_up_eq, va_up_nl, c_coinFits, gb_0]
  have bad : ¬ gkd a b c r → gEv (gT X) 94 18 [.ref 0, .int a, .int b, .int c, .int r] [] n k w (fun v n1 k1 w1 => ∃ y, v = some (.int y) ∧ gisO 6 (w1 24) = true ∧ gEv (gT X) 158 0 [.ref 24, .int a, .int b, .int c, .int r, .null] [] n1 k1 w1 (fun v2 n2 k2 w2 => v2 = some (.int y) ∧ LI w2 n2 k2)) := by
    intro q
    simp only [eX5_adds_18, eX5_adds_19, Option.toList_some, Option.toList_none, List.cons_append, List.nil_append, gcat_nil, gcat_cons, cat_int, cat_ref, cat_null, cat_ret, cat_long, grc_ref, narZ0, narZ1, true_and, and_true, decide_true, Nat.reduceAdd, Nat.reduceLeDiff, if_true, if_false, eq_self, gfld_in, gobj_in, garr_in, garq_in, glen_in, gisO_in, ex_some, List.getElem?_cons_succ, List.getElem?_cons_zero, List.length_cons, List.length_nil, List.set_cons_succ, List.set_cons_zero, Nat.reduceLT, va_up_eq, va_up_nl]
    refine ⟨_, rfl, ?_⟩
    obtain ⟨rd, tx, pz, tk, ta, va, fa, it, al, ln, fz, fb, be, fo, fm, io, hw, ht, hF⟩ := hM; refine ⟨by rw [hw]; rfl, ?_⟩; rw [hw]
    rw [c6_adds_bad q]
    exact ⟨rfl, LI_mk hC ht hF⟩
  by_cases q1 : (1 ≤ a ∧ a ≤ 99) ∧ (1 ≤ b ∧ b ≤ 99) ∧ (0 ≤ c ∧ c ≤ 2)
  · rw [if_neg (fun z => z q1)]
    simp only [eX5_adds_9, eX5_adds_10, eX5_adds_12, eX5_adds_15, Option.toList_some, Option.toList_none, List.cons_append, List.nil_append, gcat_nil, gcat_cons, cat_int, cat_ref, cat_null, cat_ret, cat_long, grc_ref, narZ0, narZ1, true_and, and_true, decide_true, Nat.reduceAdd, Nat.reduceLeDiff, if_true, if_false, eq_self, gfld_in, gobj_in, garr_in, garq_in, glen_in, gisO_in, ex_some, List.getElem?_cons_succ, List.getElem?_cons_zero, List.length_cons, List.length_nil, List.set_cons_succ, List.set_cons_zero, Nat.reduceLT, va_up_eq, va_up_nl, c_wearFits, gb_0]
    by_cases q2 : (0 ≤ r ∧ r ≤ 9) ∧ r < b
    · rw [if_pos (fun z => z q2)]
      have hk : gkd a b c r := ⟨q1.1, q1.2.1, q1.2.2, q2.1, q2.2⟩
      simp only [eX5_adds_20, eX5_adds_21, eX5_adds_24, eX5_adds_27, eX5_adds_29, Option.toList_some, Option.toList_none, List.cons_append, List.nil_append, gcat_nil, gcat_cons, cat_int, cat_ref, cat_null, cat_ret, cat_long, grc_ref, narZ0, narZ1, true_and, and_true, decide_true, Nat.reduceAdd, Nat.reduceLeDiff, if_true, if_false, eq_self, gfld_in, gobj_in, garr_in, garq_in, glen_in, gisO_in, ex_some, List.getElem?_cons_succ, List.getElem?_cons_zero, List.length_cons, List.length_nil, List.set_cons_succ, List.set_cons_zero, Nat.reduceLT, va_up_eq, va_up_nl, h0, h1]
      by_cases q3 : K = 6
      · have hc6 : ¬ nI K < 6 := nI_nlt (b := 6) (by omega) (by omega)
        rw [if_neg hc6]
        simp only [eX5_adds_32, eX5_adds_34, Option.toList_some, Option.toList_none, List.cons_append, List.nil_append, gcat_nil, gcat_cons, cat_int, cat_ref, cat_null, cat_ret, cat_long, grc_ref, narZ0, narZ1, true_and, and_true, decide_true, Nat.reduceAdd, Nat.reduceLeDiff, if_true, if_false, eq_self, gfld_in, gobj_in, garr_in, garq_in, glen_in, gisO_in, ex_some, List.getElem?_cons_succ, List.getElem?_cons_zero, List.length_cons, List.length_nil, List.set_cons_succ, List.set_cons_zero, Nat.reduceLT, va_up_eq, va_up_nl]
        refine ⟨_, rfl, ?_⟩
        obtain ⟨rd, tx, pz, tk, ta, va, fa, it, al, ln, fz, fb, be, fo, fm, io, hw, ht, hF⟩ := hM; refine ⟨by rw [hw]; rfl, ?_⟩; rw [hw]
        rw [c6_adds hK r0 hd6 hk, if_pos q3]
        exact ⟨rfl, LI_mk hC ht hF⟩
      · have hc6 : nI K < 6 := nI_lt (b := 6) (by omega) (by omega)
        have hc6' : ¬ 6 ≤ nI K := nI_ge (b := 6) (by omega) (by omega)
        rw [if_pos hc6]
        simp only [eX5_adds_35, eX5_adds_36, eX5_adds_39, eX5_adds_40, eX5_adds_43, Option.toList_some, Option.toList_none, List.cons_append, List.nil_append, gcat_nil, gcat_cons, cat_int, cat_ref, cat_null, cat_ret, cat_long, grc_ref, narZ0, narZ1, true_and, and_true, decide_true, Nat.reduceAdd, Nat.reduceLeDiff, if_true, if_false, eq_self, gfld_in, gobj_in, garr_in, garq_in, glen_in, gisO_in, ex_some, List.getElem?_cons_succ, List.getElem?_cons_zero, List.length_cons, List.length_nil, List.set_cons_succ, List.set_cons_zero, Nat.reduceLT, va_up_eq, va_up_nl, h0, g5]
        refine r_remember hH hT hR ?_
        intro w1 n1 k1 hH1 hf
        have hT1 : isTr w1 1 kr ts co (nI K) (nI N) (nw 50) (nw 58) := isTr_fr hT (fun a q1 q2 => hf a (by omega) (by omega) (by omega))
        have hs1 : sTr w1 1 kr ts co (nI K) (nI N) (nw 50) (nw 58) = w1 := sTr_self hT1
        have c0 : ∀ {kr ts co : Nat → Int32} {kc tc rm jm : Int32}, sTr w1 1 kr ts co kc tc rm jm 0 = (.inr (5, [.ref 1, .ref 5, .ref 7, .ref 8, .ref 15, .ref 20]) : gE) := by intros; rw [sTr_ne (by omega), hf 0 (by omega) (by omega) (by omega), h0]
        rw [← hs1]
        simp only [eX5_adds_46, eX5_adds_47, eX5_adds_50, eX5_adds_51, eX5_adds_52, eX5_adds_53, eX5_adds_55, eX5_adds_56, Option.toList_some, Option.toList_none, List.cons_append, List.nil_append, gcat_nil, gcat_cons, cat_int, cat_ref, cat_null, cat_ret, cat_long, grc_ref, narZ0, narZ1, true_and, and_true, decide_true, Nat.reduceAdd, Nat.reduceLeDiff, if_true, if_false, eq_self, gfld_in, gobj_in, garr_in, garq_in, glen_in, gisO_in, ex_some, List.getElem?_cons_succ, List.getElem?_cons_zero, List.length_cons, List.length_nil, List.set_cons_succ, List.set_cons_zero, Nat.reduceLT, va_up_eq, va_up_nl, c0, s1_0, c_appendKind, hc6']
        rw [nI5, nIp0, nI_1, nIp2, nIp3, nIp4, nI_1, gup_at (by omega) (by omega), gup_at (by omega) (by omega), gup_at (by omega) (by omega), gup_at (by omega) (by omega), gup_at (by omega) (by omega)]
        simp only [eX5_adds_59, eX5_adds_60, eX5_adds_63, eX5_adds_66, eX5_adds_67, eX5_adds_68, Option.toList_some, Option.toList_none, List.cons_append, List.nil_append, gcat_nil, gcat_cons, cat_int, cat_ref, cat_null, cat_ret, cat_long, grc_ref, narZ0, narZ1, true_and, and_true, decide_true, Nat.reduceAdd, Nat.reduceLeDiff, if_true, if_false, eq_self, gfld_in, gobj_in, garr_in, garq_in, glen_in, gisO_in, ex_some, List.getElem?_cons_succ, List.getElem?_cons_zero, List.length_cons, List.length_nil, List.set_cons_succ, List.set_cons_zero, Nat.reduceLT, va_up_eq, va_up_nl, c0, s1_0, nI_pred]
        refine ⟨_, rfl, ?_⟩
        obtain ⟨rd, tx, pz, tk, ta, va, fa, it, al, ln, fz, fb, be, fo, fm, io, hw, ht, hF⟩ := RM_deed (kr := upd (upd (upd (upd (upd kr (5 * K) a) (5 * K + 1) b) (5 * K + 2) c) (5 * K + 3) r) (5 * K + 4) 1) (ts := ts) (co := co) (kc := nI (K + 1)) (tc := nI N) (rm := nw 50) (jm := nw 58) hM hf; refine ⟨by rw [hw]; rfl, ?_⟩; rw [hw]
        rw [c6_adds hK r0 hd6 hk, if_neg q3]
        exact ⟨rfl, LI_mk (d := hmn d) (RC_deed hC hH1 hf (tRl_adds hR (by omega) hk)) ht hF⟩
    · rw [if_neg (fun z => z q2)]
      exact bad (fun z => q2 ⟨z.2.2.2.1, z.2.2.2.2⟩)
  · rw [if_pos q1]
    exact bad (fun z => q1 ⟨z.1, z.2.1, z.2.2.1⟩)
theorem s_puts (hL : LI w n k) {a so b c : Int32} : GG X 91 155 [.ref 0, .int a, .int so, .int b, .int c] [.ref 24, .int a, .int so, .int b, .int c, .null] n k w := by
  obtain ⟨nw, ps, d, im, ik, tv, l, S, Fk, Fx, Fb, hC, hM⟩ := hL
  have hC' := hC
  obtain ⟨h0, ⟨kr, ts, co, kc, tc, rm, jm, K, N, hT, hR⟩, hH, hTe, hPl, hWi⟩ := hC'
  have hR' := hR
  obtain ⟨hK, hN, r0, e1, r31, e2, rk, rt, e3, rc, e4, hrg⟩ := hR'
  subst e1; subst e2; subst e3; subst e4
  have h1 : w 1 = .inr (3, [.ref 2, .ref 3, .ref 4, .int (nI K), .int (nI N), .int (nw 50), .int (nw 58)]) := hT.1
  have hd6 : d ≤ 6 := by obtain ⟨_, _, _, _, _, _, _, h, _⟩ := hH; exact h
  have g5 : gisO 0 (w 5) = true := by obtain ⟨nx, rg, ig, h5, _⟩ := hH; rw [h5]; rfl
  unfold GG
  have bad : ¬ ((0 ≤ a ∧ a ≤ nI N) ∧ (0 ≤ so ∧ so ≤ 2) ∧ gbd so b ∧ 1 ≤ c ∧ c ≤ 9) → gEv (gT X) 91 43 [.ref 0, .int a, .int so, .int b, .int c] [] n k w (fun v n1 k1 w1 => ∃ y, v = some (.int y) ∧ gisO 6 (w1 24) = true ∧ gEv (gT X) 155 0 [.ref 24, .int a, .int so, .int b, .int c, .null] [] n1 k1 w1 (fun v2 n2 k2 w2 => v2 = some (.int y) ∧ LI w2 n2 k2)) := by
    intro q
    simp only [eX5_puts_43, eX5_puts_44, Option.toList_some, Option.toList_none, List.cons_append, List.nil_append, gcat_nil, gcat_cons, cat_int, cat_ref, cat_null, cat_ret, cat_long, grc_ref, narZ0, narZ1, true_and, and_true, decide_true, Nat.reduceAdd, Nat.reduceLeDiff, if_true, if_false, eq_self, gfld_in, gobj_in, garr_in, garq_in, glen_in, gisO_in, ex_some, List.getElem?_cons_succ, List.getElem?_cons_zero, List.length_cons, List.length_nil, List.set_cons_succ, List.set_cons_zero, Nat.reduceLT, va_up_eq, va_up_nl]
    refine ⟨_, rfl, ?_⟩
    obtain ⟨rd, tx, pz, tk, ta, va, fa, it, al, ln, fz, fb, be, fo, fm, io, hw, ht, hF⟩ := hM; refine ⟨by rw [hw]; rfl, ?_⟩; rw [hw]
    rw [c6_puts_bad r31 q]
    exact ⟨rfl, LI_mk hC ht hF⟩
  simp only [eX5_puts_0, eX5_puts_1, eX5_puts_2, eX5_puts_3, eX5_puts_6, eX5_puts_9, eX5_puts_12, Option.toList_some, Option.toList_none, List.cons_append, List.nil_append, gcat_nil, gcat_cons, cat_int, cat_ref, cat_null, cat_ret, cat_long, grc_ref, narZ0, narZ1, true_and, and_true, decide_true, Nat.reduceAdd, Nat.reduceLeDiff, if_true, if_false, eq_self, gfld_in, gobj_in, garr_in, garq_in, glen_in, gisO_in, ex_some, List.getElem?_cons_succ, List.getElem?_cons_zero, List.length_cons, List.length_nil, List.set_cons_succ, List.set_cons_zero, Nat.reduceLT, va_up_eq, va_up_nl, h0, h1, c_within, gb_0]
  by_cases q1 : 0 ≤ a ∧ a ≤ nI N
  · rw [if_neg (fun z => z q1)]
    simp only [eX5_puts_15, eX5_puts_16, eX5_puts_17, eX5_puts_18, eX5_puts_21, Option.toList_some, Option.toList_none, List.cons_append, List.nil_append, gcat_nil, gcat_cons, cat_int, cat_ref, cat_null, cat_ret, cat_long, grc_ref, narZ0, narZ1, true_and, and_true, decide_true, Nat.reduceAdd, Nat.reduceLeDiff, if_true, if_false, eq_self, gfld_in, gobj_in, garr_in, garq_in, glen_in, gisO_in, ex_some, List.getElem?_cons_succ, List.getElem?_cons_zero, List.length_cons, List.length_nil, List.set_cons_succ, List.set_cons_zero, Nat.reduceLT, va_up_eq, va_up_nl, c_within, gb_0]
    by_cases q2 : 0 ≤ so ∧ so ≤ 2
    · rw [if_neg (fun z => z q2)]
      simp only [eX5_puts_24, eX5_puts_25, eX5_puts_26, eX5_puts_29, Option.toList_some, Option.toList_none, List.cons_append, List.nil_append, gcat_nil, gcat_cons, cat_int, cat_ref, cat_null, cat_ret, cat_long, grc_ref, narZ0, narZ1, true_and, and_true, decide_true, Nat.reduceAdd, Nat.reduceLeDiff, if_true, if_false, eq_self, gfld_in, gobj_in, garr_in, garq_in, glen_in, gisO_in, ex_some, List.getElem?_cons_succ, List.getElem?_cons_zero, List.length_cons, List.length_nil, List.set_cons_succ, List.set_cons_zero, Nat.reduceLT, va_up_eq, va_up_nl, c_boundFits, gb_0]
      by_cases q3 : (if so = 2 then (0 : Int32) else 1) ≤ b ∧ b ≤ (if so = 2 then 2 else 99)
      · rw [if_neg (fun z => z q3)]
        simp only [eX5_puts_32, eX5_puts_34, eX5_puts_35, eX5_puts_37, eX5_puts_40, Option.toList_some, Option.toList_none, List.cons_append, List.nil_append, gcat_nil, gcat_cons, cat_int, cat_ref, cat_null, cat_ret, cat_long, grc_ref, narZ0, narZ1, true_and, and_true, decide_true, Nat.reduceAdd, Nat.reduceLeDiff, if_true, if_false, eq_self, gfld_in, gobj_in, garr_in, garq_in, glen_in, gisO_in, ex_some, List.getElem?_cons_succ, List.getElem?_cons_zero, List.length_cons, List.length_nil, List.set_cons_succ, List.set_cons_zero, Nat.reduceLT, va_up_eq, va_up_nl, c_within, gb_0]
        by_cases q4 : 1 ≤ c ∧ c ≤ 9
        · rw [if_pos (fun z => z q4)]
          obtain ⟨p, hp, _, hp2⟩ := inR_of (lo := 0) (hi := N) (by omega) (by omega) q1
          subst hp
          simp only [eX5_puts_45, eX5_puts_46, eX5_puts_49, eX5_puts_52, eX5_puts_54, Option.toList_some, Option.toList_none, List.cons_append, List.nil_append, gcat_nil, gcat_cons, cat_int, cat_ref, cat_null, cat_ret, cat_long, grc_ref, narZ0, narZ1, true_and, and_true, decide_true, Nat.reduceAdd, Nat.reduceLeDiff, if_true, if_false, eq_self, gfld_in, gobj_in, garr_in, garq_in, glen_in, gisO_in, ex_some, List.getElem?_cons_succ, List.getElem?_cons_zero, List.length_cons, List.length_nil, List.set_cons_succ, List.set_cons_zero, Nat.reduceLT, va_up_eq, va_up_nl, h0, h1]
          by_cases q5 : N = 6
          · have hc6 : ¬ nI N < 6 := nI_nlt (b := 6) (by omega) (by omega)
            rw [if_neg hc6]
            simp only [eX5_puts_57, eX5_puts_59, Option.toList_some, Option.toList_none, List.cons_append, List.nil_append, gcat_nil, gcat_cons, cat_int, cat_ref, cat_null, cat_ret, cat_long, grc_ref, narZ0, narZ1, true_and, and_true, decide_true, Nat.reduceAdd, Nat.reduceLeDiff, if_true, if_false, eq_self, gfld_in, gobj_in, garr_in, garq_in, glen_in, gisO_in, ex_some, List.getElem?_cons_succ, List.getElem?_cons_zero, List.length_cons, List.length_nil, List.set_cons_succ, List.set_cons_zero, Nat.reduceLT, va_up_eq, va_up_nl]
            refine ⟨_, rfl, ?_⟩
            obtain ⟨rd, tx, pz, tk, ta, va, fa, it, al, ln, fz, fb, be, fo, fm, io, hw, ht, hF⟩ := hM; refine ⟨by rw [hw]; rfl, ?_⟩; rw [hw]
            rw [c6_puts hN r31 hd6 hp2 q2 q3 q4, if_pos q5]
            exact ⟨rfl, LI_mk hC ht hF⟩
          · have hc6 : nI N < 6 := nI_lt (b := 6) (by omega) (by omega)
            rw [if_pos hc6]
            simp only [eX5_puts_60, eX5_puts_61, eX5_puts_64, eX5_puts_65, eX5_puts_68, Option.toList_some, Option.toList_none, List.cons_append, List.nil_append, gcat_nil, gcat_cons, cat_int, cat_ref, cat_null, cat_ret, cat_long, grc_ref, narZ0, narZ1, true_and, and_true, decide_true, Nat.reduceAdd, Nat.reduceLeDiff, if_true, if_false, eq_self, gfld_in, gobj_in, garr_in, garq_in, glen_in, gisO_in, ex_some, List.getElem?_cons_succ, List.getElem?_cons_zero, List.length_cons, List.length_nil, List.set_cons_succ, List.set_cons_zero, Nat.reduceLT, va_up_eq, va_up_nl, h0, g5]
            refine r_remember hH hT hR ?_
            intro w1 n1 k1 hH1 hf
            have hT1 : isTr w1 1 kr ts co (nI K) (nI N) (nw 50) (nw 58) := isTr_fr hT (fun a q1 q2 => hf a (by omega) (by omega) (by omega))
            have hs1 : sTr w1 1 kr ts co (nI K) (nI N) (nw 50) (nw 58) = w1 := sTr_self hT1
            have c0 : ∀ {kr ts co : Nat → Int32} {kc tc rm jm : Int32}, sTr w1 1 kr ts co kc tc rm jm 0 = (.inr (5, [.ref 1, .ref 5, .ref 7, .ref 8, .ref 15, .ref 20]) : gE) := by intros; rw [sTr_ne (by omega), hf 0 (by omega) (by omega) (by omega), h0]
            rw [← hs1]
            simp only [eX5_puts_71, eX5_puts_72, eX5_puts_75, eX5_puts_76, eX5_puts_77, eX5_puts_78, eX5_puts_80, eX5_puts_83, eX5_puts_84, eX5_puts_87, eX5_puts_90, eX5_puts_91, eX5_puts_94, eX5_puts_97, Option.toList_some, Option.toList_none, List.cons_append, List.nil_append, gcat_nil, gcat_cons, cat_int, cat_ref, cat_null, cat_ret, cat_long, grc_ref, narZ0, narZ1, true_and, and_true, decide_true, Nat.reduceAdd, Nat.reduceLeDiff, if_true, if_false, eq_self, gfld_in, gobj_in, garr_in, garq_in, glen_in, gisO_in, ex_some, List.getElem?_cons_succ, List.getElem?_cons_zero, List.length_cons, List.length_nil, List.set_cons_succ, List.set_cons_zero, Nat.reduceLT, va_up_eq, va_up_nl, c0, s1_0, c_insertTest (show N < 6 by omega) hp2, c_emptyAll]
            have ei := ins_eq (ts := ts) (show N < 6 by omega) hp2 (N - p) 0 (by omega)
            rw [show N - 0 + 1 = N + 1 by omega, mrng_nil] at ei
            rw [ei, nI3, nIp0, nI_1, nIp2, gup_at (by omega) (by omega), gup_at (by omega) (by omega), gup_at (by omega) (by omega)]
            refine ⟨_, rfl, ?_⟩
            obtain ⟨rd, tx, pz, tk, ta, va, fa, it, al, ln, fz, fb, be, fo, fm, io, hw, ht, hF⟩ := RM_deed (kr := kr) (ts := upd (upd (upd (mrng (3 * (p + 1)) (3 * (N + 1)) (fun z => ts (z - 3)) ts) (3 * p) so) (3 * p + 1) b) (3 * p + 2) c) (co := gz co) (kc := nI K) (tc := nI (N + 1)) (rm := nw 50) (jm := -9) hM hf; refine ⟨by rw [hw]; rfl, ?_⟩; rw [hw]
            rw [c6_puts hN r31 hd6 hp2 q2 q3 q4, if_neg q5]
            exact ⟨rfl, LI_mk (d := hmn d) (RC_deed hC hH1 hf (tRl_puts hR (by omega) hp2 q2 q3 q4)) ht hF⟩
        · rw [if_neg (fun z => z q4)]
          exact bad (fun z => q4 z.2.2.2)
      · rw [if_pos q3]
        exact bad (fun z => q3 z.2.2.1)
    · rw [if_pos q2]
      exact bad (fun z => q2 z.2.1)
  · rw [if_pos q1]
    exact bad (fun z => q1 z.1)
theorem s_drops (hL : LI w n k) {a x : Int32} : GG X 88 150 [.ref 0, .int a, .int x, .null] [.ref 24, .int a, .int x, .null] n k w := by
  obtain ⟨nw, ps, d, im, ik, tv, l, S, Fk, Fx, Fb, hC, hM⟩ := hL
  have hC' := hC
  obtain ⟨h0, ⟨kr, ts, co, kc, tc, rm, jm, K, N, hT, hR⟩, hH, hTe, hPl, hWi⟩ := hC'
  have hR' := hR
  obtain ⟨hK, hN, r0, e1, r31, e2, rk, rt, e3, rc, e4, hrg⟩ := hR'
  subst e1; subst e2; subst e3; subst e4
  have h1 : w 1 = .inr (3, [.ref 2, .ref 3, .ref 4, .int (nI K), .int (nI N), .int (nw 50), .int (nw 58)]) := hT.1
  have hd6 : d ≤ 6 := by obtain ⟨_, _, _, _, _, _, _, h, _⟩ := hH; exact h
  have g5 : gisO 0 (w 5) = true := by obtain ⟨nx, rg, ig, h5, _⟩ := hH; rw [h5]; rfl
  unfold GG
  simp only [eX5_drops_0, eX5_drops_1, eX5_drops_4, eX5_drops_5, eX5_drops_6, eX5_drops_9, Option.toList_some, Option.toList_none, List.cons_append, List.nil_append, gcat_nil, gcat_cons, cat_int, cat_ref, cat_null, cat_ret, cat_long, grc_ref, narZ0, narZ1, true_and, and_true, decide_true, Nat.reduceAdd, Nat.reduceLeDiff, if_true, if_false, eq_self, gfld_in, gobj_in, garr_in, garq_in, glen_in, gisO_in, ex_some, List.getElem?_cons_succ, List.getElem?_cons_zero, List.length_cons, List.length_nil, List.set_cons_succ, List.set_cons_zero, Nat.reduceLT, va_up_eq, va_up_nl, h0, h1, c_hasCoin hT, gb_0]
  by_cases q : 0 ≤ a ∧ a < nI K
  · obtain ⟨c, htt⟩ : ∃ t, a = nI t ∧ t < K := by
      rcases pk_ix a (n := K) (by omega) with z | z | ⟨j, hj, e⟩
      · exact absurd q.1 (Int32.not_le.mpr z)
      · exact absurd q.2 (Int32.not_lt.mpr z)
      · exact ⟨j, e, hj⟩
    obtain ⟨hb, hb2⟩ := htt
    subst hb
    have e3 : gof kr 30 (nI c * 5 + 3) = nw (5 * c + 4) := by rw [nI5, nIp3, gof_at (by omega) (by omega)]; exact rk c hb2 3 (by omega)
    rw [e3]
    by_cases q2 : 0 ≤ x ∧ x ≤ nw (5 * c + 4)
    · rw [if_pos (fun z => z ⟨q, q2⟩)]
      simp only [eX5_drops_14, eX5_drops_15, eX5_drops_18, eX5_drops_21, eX5_drops_23, Option.toList_some, Option.toList_none, List.cons_append, List.nil_append, gcat_nil, gcat_cons, cat_int, cat_ref, cat_null, cat_ret, cat_long, grc_ref, narZ0, narZ1, true_and, and_true, decide_true, Nat.reduceAdd, Nat.reduceLeDiff, if_true, if_false, eq_self, gfld_in, gobj_in, garr_in, garq_in, glen_in, gisO_in, ex_some, List.getElem?_cons_succ, List.getElem?_cons_zero, List.length_cons, List.length_nil, List.set_cons_succ, List.set_cons_zero, Nat.reduceLT, va_up_eq, va_up_nl, h0, h1]
      by_cases q3 : nw 58 = -9
      · rw [if_pos q3]
        simp only [eX5_drops_29, eX5_drops_30, eX5_drops_33, eX5_drops_34, eX5_drops_37, Option.toList_some, Option.toList_none, List.cons_append, List.nil_append, gcat_nil, gcat_cons, cat_int, cat_ref, cat_null, cat_ret, cat_long, grc_ref, narZ0, narZ1, true_and, and_true, decide_true, Nat.reduceAdd, Nat.reduceLeDiff, if_true, if_false, eq_self, gfld_in, gobj_in, garr_in, garq_in, glen_in, gisO_in, ex_some, List.getElem?_cons_succ, List.getElem?_cons_zero, List.length_cons, List.length_nil, List.set_cons_succ, List.set_cons_zero, Nat.reduceLT, va_up_eq, va_up_nl, h0, g5]
        refine r_remember hH hT hR ?_
        intro w1 n1 k1 hH1 hf
        have hT1 : isTr w1 1 kr ts co (nI K) (nI N) (nw 50) (nw 58) := isTr_fr hT (fun a q1 q2 => hf a (by omega) (by omega) (by omega))
        have hs1 : sTr w1 1 kr ts co (nI K) (nI N) (nw 50) (nw 58) = w1 := sTr_self hT1
        have c0 : ∀ {kr ts co : Nat → Int32} {kc tc rm jm : Int32}, sTr w1 1 kr ts co kc tc rm jm 0 = (.inr (5, [.ref 1, .ref 5, .ref 7, .ref 8, .ref 15, .ref 20]) : gE) := by intros; rw [sTr_ne (by omega), hf 0 (by omega) (by omega) (by omega), h0]
        rw [← hs1]
        have hle : mbc nw (-9) 0 (fun p => p) N c x ≤ N := mbn_le
        simp only [eX5_drops_40, eX5_drops_41, eX5_drops_44, eX5_drops_45, eX5_drops_46, eX5_drops_47, Option.toList_some, Option.toList_none, List.cons_append, List.nil_append, gcat_nil, gcat_cons, cat_int, cat_ref, cat_null, cat_ret, cat_long, grc_ref, narZ0, narZ1, true_and, and_true, decide_true, Nat.reduceAdd, Nat.reduceLeDiff, if_true, if_false, eq_self, gfld_in, gobj_in, garr_in, garq_in, glen_in, gisO_in, ex_some, List.getElem?_cons_succ, List.getElem?_cons_zero, List.length_cons, List.length_nil, List.set_cons_succ, List.set_cons_zero, Nat.reduceLT, va_up_eq, va_up_nl, c0, s1_0, c_binOfCoin hN sTr_is, p_bc1 hR hb2]
        generalize hbb : mbc nw (-9) 0 (fun p => p) N c x = b at *
        simp only [eX5_drops_50, eX5_drops_50b, eX5_drops_50c, eX5_drops_50d, eX5_drops_51, eX5_drops_52, eX5_drops_55, eX5_drops_56, Option.toList_some, Option.toList_none, List.cons_append, List.nil_append, gcat_nil, gcat_cons, cat_int, cat_ref, cat_null, cat_ret, cat_long, grc_ref, narZ0, narZ1, true_and, and_true, decide_true, Nat.reduceAdd, Nat.reduceLeDiff, if_true, if_false, eq_self, gfld_in, gobj_in, garr_in, garq_in, glen_in, gisO_in, ex_some, List.getElem?_cons_succ, List.getElem?_cons_zero, List.length_cons, List.length_nil, List.set_cons_succ, List.set_cons_zero, Nat.reduceLT, va_up_eq, va_up_nl, c0, s1_0, c_takeIn (show b < 7 by omega), rc b (show b < 7 by omega)]
        by_cases q4 : nw (51 + b) < nw 50
        · have h10 : ¬ (1 : Int32) = 0 := by decide
          rw [if_pos q4]
          simp only [eX5_drops_59, eX5_drops_62, eX5_drops_63, eX5_drops_70, Option.toList_some, Option.toList_none, List.cons_append, List.nil_append, gcat_nil, gcat_cons, cat_int, cat_ref, cat_null, cat_ret, cat_long, grc_ref, narZ0, narZ1, true_and, and_true, decide_true, Nat.reduceAdd, Nat.reduceLeDiff, if_true, if_false, eq_self, gfld_in, gobj_in, garr_in, garq_in, glen_in, gisO_in, ex_some, List.getElem?_cons_succ, List.getElem?_cons_zero, List.length_cons, List.length_nil, List.set_cons_succ, List.set_cons_zero, Nat.reduceLT, va_up_eq, va_up_nl, h10]
          refine ⟨_, rfl, ?_⟩
          obtain ⟨rd, tx, pz, tk, ta, va, fa, it, al, ln, fz, fb, be, fo, fm, io, hw, ht, hF⟩ := RM_deed (kr := kr) (ts := ts) (co := upd co b (nw (51 + b) + 1)) (kc := nI K) (tc := nI N) (rm := nw 50) (jm := nw 58) hM hf; refine ⟨by rw [hw]; rfl, ?_⟩; rw [hw]
          rw [c6_drops hK r0 hN r31 hd6 hb2, if_pos q2, if_pos q3, hbb, if_pos q4]
          refine ⟨rfl, LI_mk (d := hmn d) (RC_deed hC hH1 hf (tRl_hi hR ?_ ?_ ?_ ?_)) ht hF⟩
          · intro z hz; rw [upd_ne' (by omega)]
          · rw [upd_ne' (by omega)]
          · intro b' hb'
            unfold upd
            by_cases y : b' = b
            · rw [if_pos y, if_pos (by omega)]
            · rw [if_neg y, if_neg (by omega), rc b' hb']
          · rw [upd_ne' (by omega)]
        · have e100 : 100 + nI b = nI (100 + b) := by rw [show (100 : Int32) = nI 100 from rfl, nI_add]
          rw [if_neg q4]
          simp only [eX5_drops_59, eX5_drops_66, eX5_drops_68, eX5_drops_69, eX5_drops_70, Option.toList_some, Option.toList_none, List.cons_append, List.nil_append, gcat_nil, gcat_cons, cat_int, cat_ref, cat_null, cat_ret, cat_long, grc_ref, narZ0, narZ1, true_and, and_true, decide_true, Nat.reduceAdd, Nat.reduceLeDiff, if_true, if_false, eq_self, gfld_in, gobj_in, garr_in, garq_in, glen_in, gisO_in, ex_some, List.getElem?_cons_succ, List.getElem?_cons_zero, List.length_cons, List.length_nil, List.set_cons_succ, List.set_cons_zero, Nat.reduceLT, va_up_eq, va_up_nl]
          refine ⟨_, rfl, ?_⟩
          obtain ⟨rd, tx, pz, tk, ta, va, fa, it, al, ln, fz, fb, be, fo, fm, io, hw, ht, hF⟩ := RM_deed (kr := kr) (ts := ts) (co := co) (kc := nI K) (tc := nI N) (rm := nw 50) (jm := nI b) hM hf; refine ⟨by rw [hw]; rfl, ?_⟩; rw [hw]
          rw [c6_drops hK r0 hN r31 hd6 hb2, if_pos q2, if_pos q3, hbb, if_neg q4]
          refine ⟨by first | rfl | rw [e100], LI_mk (d := hmn d) (RC_deed hC hH1 hf (tRl_hi hR ?_ ?_ ?_ ?_)) ht hF⟩
          · intro z hz; rw [upd_ne' (by omega)]
          · rw [upd_ne' (by omega)]
          · intro b' hb'; rw [upd_ne' (by omega), rc b' hb']
          · rw [upd_eq']
      · rw [if_neg q3]
        simp only [eX5_drops_26, eX5_drops_28, Option.toList_some, Option.toList_none, List.cons_append, List.nil_append, gcat_nil, gcat_cons, cat_int, cat_ref, cat_null, cat_ret, cat_long, grc_ref, narZ0, narZ1, true_and, and_true, decide_true, Nat.reduceAdd, Nat.reduceLeDiff, if_true, if_false, eq_self, gfld_in, gobj_in, garr_in, garq_in, glen_in, gisO_in, ex_some, List.getElem?_cons_succ, List.getElem?_cons_zero, List.length_cons, List.length_nil, List.set_cons_succ, List.set_cons_zero, Nat.reduceLT, va_up_eq, va_up_nl]
        refine ⟨_, rfl, ?_⟩
        obtain ⟨rd, tx, pz, tk, ta, va, fa, it, al, ln, fz, fb, be, fo, fm, io, hw, ht, hF⟩ := hM; refine ⟨by rw [hw]; rfl, ?_⟩; rw [hw]
        rw [c6_drops hK r0 hN r31 hd6 hb2, if_pos q2, if_neg q3]
        exact ⟨rfl, LI_mk hC ht hF⟩
    · rw [if_neg (fun z => z (fun y => q2 y.2))]
      simp only [eX5_drops_12, eX5_drops_13, Option.toList_some, Option.toList_none, List.cons_append, List.nil_append, gcat_nil, gcat_cons, cat_int, cat_ref, cat_null, cat_ret, cat_long, grc_ref, narZ0, narZ1, true_and, and_true, decide_true, Nat.reduceAdd, Nat.reduceLeDiff, if_true, if_false, eq_self, gfld_in, gobj_in, garr_in, garq_in, glen_in, gisO_in, ex_some, List.getElem?_cons_succ, List.getElem?_cons_zero, List.length_cons, List.length_nil, List.set_cons_succ, List.set_cons_zero, Nat.reduceLT, va_up_eq, va_up_nl]
      refine ⟨_, rfl, ?_⟩
      obtain ⟨rd, tx, pz, tk, ta, va, fa, it, al, ln, fz, fb, be, fo, fm, io, hw, ht, hF⟩ := hM; refine ⟨by rw [hw]; rfl, ?_⟩; rw [hw]
      rw [c6_drops hK r0 hN r31 hd6 hb2, if_neg q2]
      exact ⟨rfl, LI_mk hC ht hF⟩
  · rw [if_neg (fun z => z (fun y => q y.1))]
    simp only [eX5_drops_12, eX5_drops_13, Option.toList_some, Option.toList_none, List.cons_append, List.nil_append, gcat_nil, gcat_cons, cat_int, cat_ref, cat_null, cat_ret, cat_long, grc_ref, narZ0, narZ1, true_and, and_true, decide_true, Nat.reduceAdd, Nat.reduceLeDiff, if_true, if_false, eq_self, gfld_in, gobj_in, garr_in, garq_in, glen_in, gisO_in, ex_some, List.getElem?_cons_succ, List.getElem?_cons_zero, List.length_cons, List.length_nil, List.set_cons_succ, List.set_cons_zero, Nat.reduceLT, va_up_eq, va_up_nl]
    refine ⟨_, rfl, ?_⟩
    obtain ⟨rd, tx, pz, tk, ta, va, fa, it, al, ln, fz, fb, be, fo, fm, io, hw, ht, hF⟩ := hM; refine ⟨by rw [hw]; rfl, ?_⟩; rw [hw]
    rw [c6_drops_bad hK r0 q]
    exact ⟨rfl, LI_mk hC ht hF⟩
end DA
