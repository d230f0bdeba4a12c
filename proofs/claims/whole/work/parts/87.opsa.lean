/-! THE CALLS, one by one -/
section OA
variable {X : gX} {w : gH} {n k : Nat}
theorem s_type (hL : LI w n k) {a : Int32} : GG X 85 133 [.ref 0, .int a] [.ref 24, .int a] n k w := by
  obtain ⟨nw, ps, d, im, ik, tv, l, S, Fk, Fx, Fb, hC, hM⟩ := hL
  have hC' := hC
  obtain ⟨h0, ⟨kr, ts, co, kc, tc, rm, jm, K, N, hT, hR⟩, hH, hTe, hPl, hWi⟩ := hC'
  have hR' := hR
  obtain ⟨hK, hN, r0, e1, r31, e2, rk, rt, e3, rc, e4, hrg⟩ := hR'
  subst e1; subst e2; subst e3; subst e4
  have h1 : w 1 = .inr (3, [.ref 2, .ref 3, .ref 4, .int (nI K), .int (nI N), .int (nw 50), .int (nw 58)]) := hT.1
  have hd6 : d ≤ 6 := by obtain ⟨_, _, _, _, _, _, _, h, _⟩ := hH; exact h
  have g5 : gisO 0 (w 5) = true := by obtain ⟨nx, rg, ig, h5, _⟩ := hH; rw [h5]; rfl
  unfold GG
  obtain ⟨lt, nb, tt, st, en, h8, h9, h10, hg, h11⟩ := hTe
  have hl := hg.1
  have hw8 : tW w lt nb (nI l) tt st en = w := tW_self h8 h9 h10
  by_cases q : 0 ≤ a ∧ a ≤ 255
  · have t0 : tW w lt nb (nI l) tt st en 0 = (.inr (5, [.ref 1, .ref 5, .ref 7, .ref 8, .ref 15, .ref 20]) : gE) := by rw [tW_ne (by omega), h0]
    have t0' : ∀ {lt : Nat → Int32} {tl : Int32}, tW w lt nb tl tt st en 0 = (.inr (5, [.ref 1, .ref 5, .ref 7, .ref 8, .ref 15, .ref 20]) : gE) := by intros; rw [tW_ne (by omega), h0]
    have h10' : ¬ (1 : Int32) = 0 := by decide
    rw [← hw8]
    simp only [eX5_type_0, eX5_type_1, eX5_type_2, eX5_type_5, eX5_type_8, eX5_type_13, eX5_type_14, eX5_type_17, eX5_type_18, Option.toList_some, Option.toList_none, List.cons_append, List.nil_append, gcat_nil, gcat_cons, cat_int, cat_ref, cat_null, cat_ret, cat_long, grc_ref, narZ0, narZ1, true_and, and_true, decide_true, Nat.reduceAdd, Nat.reduceLeDiff, if_true, if_false, eq_self, gfld_in, gobj_in, garr_in, garq_in, glen_in, gisO_in, ex_some, List.getElem?_cons_succ, List.getElem?_cons_zero, List.length_cons, List.length_nil, List.set_cons_succ, List.set_cons_zero, Nat.reduceLT, va_up_eq, va_up_nl, c_within, gb_0, q, t0, tW_8, c_append hl, not_true_eq_false, not_false_eq_true]
    by_cases q2 : l = 150
    · rw [if_pos q2]
      simp only [eX5_type_21, eX5_type_34, eX5_type_36, Option.toList_some, Option.toList_none, List.cons_append, List.nil_append, gcat_nil, gcat_cons, cat_int, cat_ref, cat_null, cat_ret, cat_long, grc_ref, narZ0, narZ1, true_and, and_true, decide_true, Nat.reduceAdd, Nat.reduceLeDiff, if_true, if_false, eq_self, gfld_in, gobj_in, garr_in, garq_in, glen_in, gisO_in, ex_some, List.getElem?_cons_succ, List.getElem?_cons_zero, List.length_cons, List.length_nil, List.set_cons_succ, List.set_cons_zero, Nat.reduceLT, va_up_eq, va_up_nl]
      refine ⟨_, rfl, ?_⟩
      obtain ⟨rd, tx, pz, tk, ta, va, fa, it, al, ln, fz, fb, be, fo, fm, io, hw, ht, hF⟩ := RM_tW (lt := lt) (nb := nb) (tl := nI l) (tt := tt) (st := st) (en := en) hM; refine ⟨by rw [hw]; rfl, ?_⟩; rw [hw]
      rw [c6_type hl, if_pos q, if_pos q2]
      exact ⟨rfl, LI_mk (RC_tW hC hg) ht hF⟩
    · rw [if_neg q2]
      simp only [eX5_type_21, eX5_type_24, eX5_type_25, eX5_type_28, eX5_type_31, eX5_type_36, Option.toList_some, Option.toList_none, List.cons_append, List.nil_append, gcat_nil, gcat_cons, cat_int, cat_ref, cat_null, cat_ret, cat_long, grc_ref, narZ0, narZ1, true_and, and_true, decide_true, Nat.reduceAdd, Nat.reduceLeDiff, if_true, if_false, eq_self, gfld_in, gobj_in, garr_in, garq_in, glen_in, gisO_in, ex_some, List.getElem?_cons_succ, List.getElem?_cons_zero, List.length_cons, List.length_nil, List.set_cons_succ, List.set_cons_zero, Nat.reduceLT, va_up_eq, va_up_nl, h10', t0', tW_8]
      refine ⟨_, rfl, ?_⟩
      have hg2 : ∀ {lt : Nat → Int32}, gtx lt tv l → gtx (upd lt l a) (upn tv l a.toNatClampNeg) (l + 1) := by
        intro lt hg
        obtain ⟨j, hj, _, hj2⟩ := inR_of (lo := 0) (hi := 255) (by omega) (by omega) q
        refine ⟨by omega, fun z hz => ?_⟩
        unfold upd upn
        by_cases y : z = l
        · rw [if_pos y, if_pos y, hj, nI_clamp (by omega)]; exact ⟨rfl, by omega⟩
        · rw [if_neg y, if_neg y]; exact hg.2 z (by omega)
      obtain ⟨rd, tx, pz, tk, ta, va, fa, it, al, ln, fz, fb, be, fo, fm, io, hw, ht, hF⟩ := RM_tW (lt := upd lt l a) (nb := nb) (tl := nI (l + 1)) (tt := tt) (st := st) (en := en) hM; refine ⟨by rw [hw]; rfl, ?_⟩; rw [hw]
      rw [c6_type hl, if_pos q, if_neg q2]
      exact ⟨rfl, LI_mk (RC_tW hC (hg2 hg)) (hg2 ht) hF⟩
  · simp only [eX5_type_0, eX5_type_1, eX5_type_2, eX5_type_5, eX5_type_8, eX5_type_11, eX5_type_12, Option.toList_some, Option.toList_none, List.cons_append, List.nil_append, gcat_nil, gcat_cons, cat_int, cat_ref, cat_null, cat_ret, cat_long, grc_ref, narZ0, narZ1, true_and, and_true, decide_true, Nat.reduceAdd, Nat.reduceLeDiff, if_true, if_false, eq_self, gfld_in, gobj_in, garr_in, garq_in, glen_in, gisO_in, ex_some, List.getElem?_cons_succ, List.getElem?_cons_zero, List.length_cons, List.length_nil, List.set_cons_succ, List.set_cons_zero, Nat.reduceLT, va_up_eq, va_up_nl, c_within, gb_0, q, not_true_eq_false, not_false_eq_true]
    refine ⟨_, rfl, ?_⟩
    obtain ⟨rd, tx, pz, tk, ta, va, fa, it, al, ln, fz, fb, be, fo, fm, io, hw, ht, hF⟩ := hM; refine ⟨by rw [hw]; rfl, ?_⟩; rw [hw]
    rw [c6_type hl, if_neg q]
    exact ⟨rfl, LI_mk hC ht hF⟩
theorem gtx_0 {tx : Nat → Int32} {tv : Nat → Nat} : gtx tx tv 0 := ⟨by omega, fun j h => absurd h (by omega)⟩
theorem s_clear (hL : LI w n k) : GG X 86 134 [.ref 0, .null] [.ref 24, .null] n k w := by
  obtain ⟨nw, ps, d, im, ik, tv, l, S, Fk, Fx, Fb, hC, hM⟩ := hL
  have hC' := hC
  obtain ⟨h0, ⟨kr, ts, co, kc, tc, rm, jm, K, N, hT, hR⟩, hH, hTe, hPl, hWi⟩ := hC'
  have hR' := hR
  obtain ⟨hK, hN, r0, e1, r31, e2, rk, rt, e3, rc, e4, hrg⟩ := hR'
  subst e1; subst e2; subst e3; subst e4
  have h1 : w 1 = .inr (3, [.ref 2, .ref 3, .ref 4, .int (nI K), .int (nI N), .int (nw 50), .int (nw 58)]) := hT.1
  have hd6 : d ≤ 6 := by obtain ⟨_, _, _, _, _, _, _, h, _⟩ := hH; exact h
  have g5 : gisO 0 (w 5) = true := by obtain ⟨nx, rg, ig, h5, _⟩ := hH; rw [h5]; rfl
  unfold GG
  obtain ⟨lt, nb, tt, st, en, h8, h9, h10, hg, h11⟩ := hTe
  have hw8 : tW w lt nb (nI l) tt st en = w := tW_self h8 h9 h10
  have t0' : ∀ {tl : Int32}, tW w lt nb tl tt st en 0 = (.inr (5, [.ref 1, .ref 5, .ref 7, .ref 8, .ref 15, .ref 20]) : gE) := by intros; rw [tW_ne (by omega), h0]
  rw [← hw8]
  simp only [eX5_clear_0, eX5_clear_1, eX5_clear_4, eX5_clear_7, eX5_clear_7b, eX5_clear_7c, eX5_clear_7d, eX5_clear_8, eX5_clear_9, eX5_clear_12, eX5_clear_13, eX5_clear_16, eX5_clear_17, Option.toList_some, Option.toList_none, List.cons_append, List.nil_append, gcat_nil, gcat_cons, cat_int, cat_ref, cat_null, cat_ret, cat_long, grc_ref, narZ0, narZ1, true_and, and_true, decide_true, Nat.reduceAdd, Nat.reduceLeDiff, if_true, if_false, eq_self, gfld_in, gobj_in, garr_in, garq_in, glen_in, gisO_in, ex_some, List.getElem?_cons_succ, List.getElem?_cons_zero, List.length_cons, List.length_nil, List.set_cons_succ, List.set_cons_zero, Nat.reduceLT, va_up_eq, va_up_nl, t0', tW_8, tW_p8]
  refine ⟨_, rfl, ?_⟩
  obtain ⟨rd, tx, pz, tk, ta, va, fa, it, al, ln, fz, fb, be, fo, fm, io, hw, ht, hF⟩ := RM_tW (lt := lt) (nb := nb) (tl := 0) (tt := tt) (st := st) (en := en) hM; refine ⟨by rw [hw]; rfl, ?_⟩; rw [hw]
  rw [c6_clear]
  exact ⟨rfl, LI_mk (tv := tv) (l := 0) (RC_tW (l' := 0) hC gtx_0) gtx_0 hF⟩
theorem gFa_0 {fa : Nat → Int32} {Fk Fx Fb : Nat → Nat} : gFa fa Fk Fx Fb 0 := ⟨by omega, fun j h => absurd h (by omega)⟩
theorem s_forget (hL : LI w n k) : GG X 103 173 [.ref 0, .null] [.ref 24, .null] n k w := by
  obtain ⟨nw, ps, d, im, ik, tv, l, S, Fk, Fx, Fb, hC, hM⟩ := hL
  have hC' := hC
  obtain ⟨h0, ⟨kr, ts, co, kc, tc, rm, jm, K, N, hT, hR⟩, hH, hTe, hPl, hWi⟩ := hC'
  have hR' := hR
  obtain ⟨hK, hN, r0, e1, r31, e2, rk, rt, e3, rc, e4, hrg⟩ := hR'
  subst e1; subst e2; subst e3; subst e4
  have h1 : w 1 = .inr (3, [.ref 2, .ref 3, .ref 4, .int (nI K), .int (nI N), .int (nw 50), .int (nw 58)]) := hT.1
  have hd6 : d ≤ 6 := by obtain ⟨_, _, _, _, _, _, _, h, _⟩ := hH; exact h
  have g5 : gisO 0 (w 5) = true := by obtain ⟨nx, rg, ig, h5, _⟩ := hH; rw [h5]; rfl
  unfold GG
  obtain ⟨sr, su, ty, sz, h20, h21, h22, h23, hF0⟩ := hWi
  have hw8 : wW w sr su ty (nI S) sz = w := wW_self h20 h21 h22 h23
  have t0' : ∀ {sc : Int32}, wW w sr su ty sc sz 0 = (.inr (5, [.ref 1, .ref 5, .ref 7, .ref 8, .ref 15, .ref 20]) : gE) := by intros; rw [wW_ne (by omega), h0]
  rw [← hw8]
  simp only [eX5_forget_0, eX5_forget_1, eX5_forget_4, eX5_forget_7, eX5_forget_7b, eX5_forget_7c, eX5_forget_7d, eX5_forget_8, eX5_forget_9, eX5_forget_12, eX5_forget_13, eX5_forget_16, eX5_forget_17, Option.toList_some, Option.toList_none, List.cons_append, List.nil_append, gcat_nil, gcat_cons, cat_int, cat_ref, cat_null, cat_ret, cat_long, grc_ref, narZ0, narZ1, true_and, and_true, decide_true, Nat.reduceAdd, Nat.reduceLeDiff, if_true, if_false, eq_self, gfld_in, gobj_in, garr_in, garq_in, glen_in, gisO_in, ex_some, List.getElem?_cons_succ, List.getElem?_cons_zero, List.length_cons, List.length_nil, List.set_cons_succ, List.set_cons_zero, Nat.reduceLT, va_up_eq, va_up_nl, t0', wW_20, wW_p20]
  refine ⟨_, rfl, ?_⟩
  obtain ⟨rd, tx, pz, tk, ta, va, fa, it, al, ln, fz, fb, be, fo, fm, io, hw, ht, hF⟩ := RM_wW (sr := sr) (su := su) (ty := ty) (sc := 0) (sz := sz) hM; refine ⟨by rw [hw]; rfl, ?_⟩; rw [hw]
  rw [c6_forget]
  exact ⟨rfl, LI_mk (S := 0) (Fk := Fk) (Fx := Fx) (Fb := Fb) (RC_wW (S' := 0) hC gFa_0) ht gFa_0⟩
theorem s_sees (hL : LI w n k) {a x b : Int32} : GG X 102 172 [.ref 0, .int a, .int x, .int b] [.ref 24, .int a, .int x, .int b] n k w := by
  obtain ⟨nw, ps, d, im, ik, tv, l, S, Fk, Fx, Fb, hC, hM⟩ := hL
  have hC' := hC
  obtain ⟨h0, ⟨kr, ts, co, kc, tc, rm, jm, K, N, hT, hR⟩, hH, hTe, hPl, hWi⟩ := hC'
  have hR' := hR
  obtain ⟨hK, hN, r0, e1, r31, e2, rk, rt, e3, rc, e4, hrg⟩ := hR'
  subst e1; subst e2; subst e3; subst e4
  have h1 : w 1 = .inr (3, [.ref 2, .ref 3, .ref 4, .int (nI K), .int (nI N), .int (nw 50), .int (nw 58)]) := hT.1
  have hd6 : d ≤ 6 := by obtain ⟨_, _, _, _, _, _, _, h, _⟩ := hH; exact h
  have g5 : gisO 0 (w 5) = true := by obtain ⟨nx, rg, ig, h5, _⟩ := hH; rw [h5]; rfl
  unfold GG
  obtain ⟨sr, su, ty, sz, h20, h21, h22, h23, hF0⟩ := hWi
  have hS := hF0.1
  have hw8 : wW w sr su ty (nI S) sz = w := wW_self h20 h21 h22 h23
  have t0' : ∀ {sr : Nat → Int32} {sc : Int32}, wW w sr su ty sc sz 0 = (.inr (5, [.ref 1, .ref 5, .ref 7, .ref 8, .ref 15, .ref 20]) : gE) := by intros; rw [wW_ne (by omega), h0]
  have h10' : ¬ (1 : Int32) = 0 := by decide
  by_cases q : gsn a x b
  · obtain ⟨q1, q2, q3⟩ := q
    rw [← hw8]
    simp only [eX5_sees_0, eX5_sees_1, eX5_sees_2, eX5_sees_3, eX5_sees_6, eX5_sees_9, eX5_sees_10, eX5_sees_11, eX5_sees_13, eX5_sees_16, eX5_sees_19, eX5_sees_20, eX5_sees_21, eX5_sees_23, eX5_sees_26, eX5_sees_31, eX5_sees_32, eX5_sees_35, eX5_sees_36, eX5_sees_37, eX5_sees_38, Option.toList_some, Option.toList_none, List.cons_append, List.nil_append, gcat_nil, gcat_cons, cat_int, cat_ref, cat_null, cat_ret, cat_long, grc_ref, narZ0, narZ1, true_and, and_true, decide_true, Nat.reduceAdd, Nat.reduceLeDiff, if_true, if_false, eq_self, gfld_in, gobj_in, garr_in, garq_in, glen_in, gisO_in, ex_some, List.getElem?_cons_succ, List.getElem?_cons_zero, List.length_cons, List.length_nil, List.set_cons_succ, List.set_cons_zero, Nat.reduceLT, va_up_eq, va_up_nl, c_within, gb_0, q1, q2, q3, not_true_eq_false, not_false_eq_true, t0', wW_20, c_wappend hS]
    by_cases q4 : S = 6
    · rw [if_pos q4]
      simp only [eX5_sees_41, eX5_sees_54, eX5_sees_56, Option.toList_some, Option.toList_none, List.cons_append, List.nil_append, gcat_nil, gcat_cons, cat_int, cat_ref, cat_null, cat_ret, cat_long, grc_ref, narZ0, narZ1, true_and, and_true, decide_true, Nat.reduceAdd, Nat.reduceLeDiff, if_true, if_false, eq_self, gfld_in, gobj_in, garr_in, garq_in, glen_in, gisO_in, ex_some, List.getElem?_cons_succ, List.getElem?_cons_zero, List.length_cons, List.length_nil, List.set_cons_succ, List.set_cons_zero, Nat.reduceLT, va_up_eq, va_up_nl]
      refine ⟨_, rfl, ?_⟩
      obtain ⟨rd, tx, pz, tk, ta, va, fa, it, al, ln, fz, fb, be, fo, fm, io, hw, ht, hF⟩ := RM_wW (sr := sr) (su := su) (ty := ty) (sc := nI S) (sz := sz) hM; refine ⟨by rw [hw]; rfl, ?_⟩; rw [hw]
      rw [c6_sees hS ⟨q1, q2, q3⟩, if_pos q4]
      exact ⟨rfl, LI_mk (RC_wW hC hF0) ht hF⟩
    · rw [if_neg q4]
      simp only [eX5_sees_41, eX5_sees_44, eX5_sees_45, eX5_sees_48, eX5_sees_51, eX5_sees_56, Option.toList_some, Option.toList_none, List.cons_append, List.nil_append, gcat_nil, gcat_cons, cat_int, cat_ref, cat_null, cat_ret, cat_long, grc_ref, narZ0, narZ1, true_and, and_true, decide_true, Nat.reduceAdd, Nat.reduceLeDiff, if_true, if_false, eq_self, gfld_in, gobj_in, garr_in, garq_in, glen_in, gisO_in, ex_some, List.getElem?_cons_succ, List.getElem?_cons_zero, List.length_cons, List.length_nil, List.set_cons_succ, List.set_cons_zero, Nat.reduceLT, va_up_eq, va_up_nl, h10', t0', wW_20]
      refine ⟨_, rfl, ?_⟩
      have hg2 : ∀ {fa : Nat → Int32}, gFa fa Fk Fx Fb S → gFa (upd (upd (upd fa (3 * S) a) (3 * S + 1) x) (3 * S + 2) b) (upn Fk S a.toNatClampNeg) (upn Fx S x.toNatClampNeg) (upn Fb S b.toNatClampNeg) (S + 1) := by
        intro fa hg
        obtain ⟨j1, e1, _, g1⟩ := inR_of (lo := 0) (hi := 5) (by omega) (by omega) q1
        obtain ⟨j2, e2, _, g2⟩ := inR_of (lo := 0) (hi := 9) (by omega) (by omega) q2
        obtain ⟨j3, e3, _, g3⟩ := inR_of (lo := 0) (hi := 6) (by omega) (by omega) q3
        refine ⟨by omega, fun z hz => ?_⟩
        unfold upn
        by_cases y : z = S
        · rw [if_pos y, if_pos y, if_pos y, y, upd_ne' (by omega), upd_ne' (by omega), upd_eq', upd_ne' (by omega), upd_eq', upd_eq', e1, e2, e3, nI_clamp (by omega), nI_clamp (by omega), nI_clamp (by omega)]
          exact ⟨rfl, rfl, rfl, by omega, by omega, by omega⟩
        · rw [if_neg y, if_neg y, if_neg y, upd_ne' (by omega), upd_ne' (by omega), upd_ne' (by omega), upd_ne' (by omega), upd_ne' (by omega), upd_ne' (by omega), upd_ne' (by omega), upd_ne' (by omega), upd_ne' (by omega)]
          exact hg.2 z (by omega)
      obtain ⟨rd, tx, pz, tk, ta, va, fa, it, al, ln, fz, fb, be, fo, fm, io, hw, ht, hF⟩ := RM_wW (sr := upd (upd (upd sr (3 * S) a) (3 * S + 1) x) (3 * S + 2) b) (su := su) (ty := ty) (sc := nI (S + 1)) (sz := sz) hM; refine ⟨by rw [hw]; rfl, ?_⟩; rw [hw]
      rw [c6_sees hS ⟨q1, q2, q3⟩, if_neg q4]
      exact ⟨rfl, LI_mk (RC_wW hC (hg2 hF0)) ht (hg2 hF)⟩
  · have h : gEv (gT X) 102 0 [.ref 0, .int a, .int x, .int b] [] n k w (fun v n1 k1 w1 => v = some (.int (-1)) ∧ n1 = n ∧ k1 = k ∧ w1 = w) := by
      simp only [eX5_sees_0, eX5_sees_1, eX5_sees_2, eX5_sees_3, eX5_sees_6, eX5_sees_9, eX5_sees_10, eX5_sees_11, eX5_sees_13, eX5_sees_16, eX5_sees_19, eX5_sees_20, eX5_sees_21, eX5_sees_23, eX5_sees_26, eX5_sees_29, eX5_sees_30, Option.toList_some, Option.toList_none, List.cons_append, List.nil_append, gcat_nil, gcat_cons, cat_int, cat_ref, cat_null, cat_ret, cat_long, grc_ref, narZ0, narZ1, true_and, and_true, decide_true, Nat.reduceAdd, Nat.reduceLeDiff, if_true, if_false, eq_self, gfld_in, gobj_in, garr_in, garq_in, glen_in, gisO_in, ex_some, List.getElem?_cons_succ, List.getElem?_cons_zero, List.length_cons, List.length_nil, List.set_cons_succ, List.set_cons_zero, Nat.reduceLT, va_up_eq, va_up_nl, c_within, gb_0]
      by_cases q1 : 0 ≤ a ∧ a ≤ 5
      · rw [if_neg (fun z => z q1)]
        by_cases q2 : 0 ≤ x ∧ x ≤ 9
        · rw [if_neg (fun z => z q2)]
          by_cases q3 : 0 ≤ b ∧ b ≤ 6
          · exact absurd ⟨q1, q2, q3⟩ q
          · rw [if_neg (fun z => z q3)]; exact trivial
        · rw [if_pos q2]; exact trivial
      · rw [if_pos q1]; exact trivial
    refine h.mono ?_
    rintro v n1 k1 w1 ⟨rfl, rfl, rfl, rfl⟩
    refine ⟨_, rfl, ?_⟩
    obtain ⟨rd, tx, pz, tk, ta, va, fa, it, al, ln, fz, fb, be, fo, fm, io, hw, ht, hF⟩ := hM; refine ⟨by rw [hw]; rfl, ?_⟩; rw [hw]
    rw [c6_sees_bad q]
    exact ⟨rfl, LI_mk hC ht hF⟩
end OA
