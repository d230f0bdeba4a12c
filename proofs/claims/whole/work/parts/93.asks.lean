/-! ASKED: counts, bins, coins, suspects -/
def mWe (nw : Nat → Int32) (c : Nat) : Nat := (nw (5 * c + 4)).toNatClampNeg
theorem mks_congr {bs bs' : Nat → Int32} {b : Int32} {K : Nat} (h : ∀ c, c < K → bs c = bs' c) : mks bs b K = mks bs' b K := by
  unfold mks
  refine gfor_congr _ _ _ (fun i _ hi a => ?_)
  rw [h i (by omega)]
theorem gfl_congr {p q : Nat → Prop} [DecidablePred p] [DecidablePred q] : ∀ (D j : Nat), (∀ i, j ≤ i → i < j + D → (p i ↔ q i)) → gfl p j D = gfl q j D := by
  intro D
  induction D with
  | zero => intro j _; rfl
  | succ D ih =>
    intro j h
    rw [gfl, gfl]
    have h0 := h j (by omega) (by omega)
    have h1 := ih (j + 1) (fun i h1 h2 => h i (by omega) (by omega))
    by_cases z : p j
    · rw [if_pos z, if_pos (h0.mp z), h1]
    · rw [if_neg z, if_neg (fun y => z (h0.mpr y)), h1]
section AA
variable {nw kr ts co : Nat → Int32} {kc tc rm jm : Int32} {K N : Nat}
theorem p_we (hR : tRl nw kr ts co kc tc rm jm K N) : ∀ c, c < K → nw (5 * c + 4) = nI (mWe nw c) ∧ mWe nw c < 10 := by
  intro c hc
  obtain ⟨hK, hN, r0, e1, r31, e2, rk, rt, e3, rc, e4, hrg⟩ := hR
  obtain ⟨_, _, _, ⟨r, v, h1, h2, h3, h4, h5⟩, _⟩ := hrg.1 c hc
  unfold mWe
  rw [h1, nI_clamp (by omega)]
  exact ⟨rfl, by omega⟩
theorem p_wk (hR : tRl nw kr ts co kc tc rm jm K N) : ∀ c, c < K → kr (5 * c + 3) = nI (mWe nw c) ∧ mWe nw c < 10 := by
  intro c hc
  obtain ⟨h1, h2⟩ := p_we hR c hc
  obtain ⟨hK, hN, r0, e1, r31, e2, rk, rt, e3, rc, e4, hrg⟩ := hR
  have := rk c hc 3 (by omega)
  exact ⟨this.trans h1, h2⟩
theorem p_wg (hR : tRl nw kr ts co kc tc rm jm K N) : ∀ c, c < K → gof kr 30 (nI c * 5 + 3) = nI (mWe nw c) ∧ mWe nw c < 100 := by
  intro c hc
  obtain ⟨h1, h2⟩ := p_wk hR c hc
  have hK := hR.1
  refine ⟨?_, by omega⟩
  rw [nI5, nIp3, gof_at (by omega) (by omega)]
  exact h1
theorem p_wm (hR : tRl nw kr ts co kc tc rm jm K N) : ∀ c, c < K → nw (5 * c + 4) = nI (mWe nw c) ∧ mWe nw c < 1000 := fun c hc => ⟨(p_we hR c hc).1, by have := (p_we hR c hc).2; omega⟩
theorem p_ks (hR : tRl nw kr ts co kc tc rm jm K N) {b : Int32} : gks (fun c => gbs kr ts N (nI c) (mWe nw c)) b K = mks (fun c => mbs (fun x => mbc nw (-9) 0 (fun p => p) N c (nI x)) (mWe nw c)) b K := by
  rw [gks_mks]
  exact mks_congr (fun c hc => p_bs hR hc)
theorem p_bn1 (hR : tRl nw kr ts co kc tc rm jm K N) {d v e : Int32} : gbn ts (-1) N d v e = mbn nw (-9) 0 (fun p => p) N d v e := p_bn (u := 0) hR (by omega)
theorem p_sl (hR : tRl nw kr ts co kc tc rm jm K N) {Fk Fx Fb : Nat → Nat} {S : Nat} : psl kr ts K N Fk Fx Fb S 0 (2 * N + 1) = msl nw K N Fk Fx Fb S 0 (2 * N + 1) := by
  have hR' := hR
  obtain ⟨hK, hN, r0, e1, r31, e2, rk, rt, e3, rc, e4, hrg⟩ := hR'
  unfold psl msl
  refine gfl_congr _ _ (fun u _ hu => ?_)
  have h1 : pct ts u ↔ mtk nw u := by
    unfold pct mtk
    by_cases q : u = 0
    · exact ⟨fun _ => Or.inl q, fun _ => Or.inl q⟩
    · have e := rt ((u - 1) / 2) (by omega) 0 (by omega)
      rw [Nat.add_zero] at e
      rw [e]
  have h2 : pxa kr ts K N Fk Fx Fb S u ↔ msa nw (mfz u) (mfb u) K N Fk Fx Fb S := by
    unfold pxa msa
    refine ⟨fun h f hf => ?_, fun h f hf => ?_⟩
    · obtain ⟨g1, g2, g3⟩ := h f hf
      have e := rk (Fk f) g1 3 (by omega)
      rw [e] at g2
      rw [p_bc hR (by omega) g1] at g3
      refine ⟨g1, g2, ?_, g3⟩
      rw [← g3]
      exact mbn_le
    · obtain ⟨g1, g2, g3, g4⟩ := h f hf
      have e := rk (Fk f) g1 3 (by omega)
      refine ⟨g1, ?_, ?_⟩
      · rw [e]; exact g2
      · rw [p_bc hR (by omega) g1]; exact g4
  rw [h1, h2]
end AA
section AB
variable {X : gX} {w : gH} {n k : Nat}
theorem s_count (hL : LI w n k) {a : Int32} : GG X 108 184 [.ref 0, .int a] [.ref 24, .int a] n k w := by
  obtain ⟨nw, ps, d, im, ik, tv, l, S, Fk, Fx, Fb, hC, hM⟩ := hL
  have hC' := hC
  obtain ⟨h0, ⟨kr, ts, co, kc, tc, rm, jm, K, N, hT, hR⟩, hH, hTe, hPl, hWi⟩ := hC'
  have hR' := hR
  obtain ⟨hK, hN, r0, e1, r31, e2, rk, rt, e3, rc, e4, hrg⟩ := hR'
  subst e1; subst e2; subst e3; subst e4
  have h1 : w 1 = .inr (3, [.ref 2, .ref 3, .ref 4, .int (nI K), .int (nI N), .int (nw 50), .int (nw 58)]) := hT.1
  have hd6 : d ≤ 6 := by obtain ⟨_, _, _, _, _, _, _, h, _⟩ := hH; exact h
  have g5 : gisO 0 (w 5) = true := by obtain ⟨nx, rg, ig, h5, _⟩ := hH; rw [h5]; rfl
  unfold GG
  obtain ⟨nx, rg, ig, h5, h6, h7, hx, hd, hS, hP, hI⟩ := hH
  obtain ⟨lt, nb, tt, st, en, h8, h9, h10, hg, h11⟩ := hTe
  obtain ⟨sr, su, ty, sz, h20, h21, h22, h23, hF0⟩ := hWi
  by_cases q : 0 ≤ a ∧ a ≤ 6
  · obtain ⟨f, hf, _, hf2⟩ := inR_of (lo := 0) (hi := 6) (by omega) (by omega) q
    subst hf
    have g0 : gtab 1 99 0 [43, 51, 59, 67, 75, 83, 91] (nI 0) = 44 := by decide
    have g1 : gtab 1 99 0 [43, 51, 59, 67, 75, 83, 91] (nI 1) = 52 := by decide
    have g2 : gtab 1 99 0 [43, 51, 59, 67, 75, 83, 91] (nI 2) = 60 := by decide
    have g3 : gtab 1 99 0 [43, 51, 59, 67, 75, 83, 91] (nI 3) = 68 := by decide
    have g4 : gtab 1 99 0 [43, 51, 59, 67, 75, 83, 91] (nI 4) = 76 := by decide
    have g55 : gtab 1 99 0 [43, 51, 59, 67, 75, 83, 91] (nI 5) = 84 := by decide
    have g6 : gtab 1 99 0 [43, 51, 59, 67, 75, 83, 91] (nI 6) = 92 := by decide
    have fin : ∀ r, r = mcount nw (nI S) (nI l) (nI d) f → ∃ y, some (Value.int r) = some (.int y) ∧ gisO 6 (w 24) = true ∧ gEv (gT X) 184 0 [.ref 24, .int (nI f)] [] n k w (fun v2 n2 k2 w2 => v2 = some (.int y) ∧ LI w2 n2 k2) := by
      intro r hr
      refine ⟨_, rfl, ?_⟩
      obtain ⟨rd, tx, pz, tk, ta, va, fa, it, al, ln, fz, fb, be, fo, fm, io, hw, ht, hF⟩ := hM; refine ⟨by rw [hw]; rfl, ?_⟩; rw [hw]
      rw [c6_count hf2]
      exact ⟨by rw [hr], LI_mk hC ht hF⟩
    have hc : f = 0 ∨ f = 1 ∨ f = 2 ∨ f = 3 ∨ f = 4 ∨ f = 5 ∨ f = 6 := by omega
    rcases hc with rfl | rfl | rfl | rfl | rfl | rfl | rfl
    · simp only [eX5_count_0, eX5_count_1, eX5_count_44, eX5_count_45, eX5_count_48, eX5_count_51, eX5_count_52, eX5_count_53, eX5_count_56, eX5_count_59, eX5_count_60, eX5_count_61, eX5_count_64, eX5_count_67, eX5_count_68, eX5_count_69, eX5_count_72, eX5_count_75, eX5_count_76, eX5_count_77, eX5_count_80, eX5_count_83, eX5_count_84, eX5_count_85, eX5_count_88, eX5_count_91, eX5_count_92, eX5_count_93, eX5_count_96, eX5_count_99, eX5_count_100, eX5_count_101, Option.toList_some, Option.toList_none, List.cons_append, List.nil_append, gcat_nil, gcat_cons, cat_int, cat_ref, cat_null, cat_ret, cat_long, grc_ref, narZ0, narZ1, true_and, and_true, decide_true, Nat.reduceAdd, Nat.reduceLeDiff, if_true, if_false, eq_self, gfld_in, gobj_in, garr_in, garq_in, glen_in, gisO_in, ex_some, List.getElem?_cons_succ, List.getElem?_cons_zero, List.length_cons, List.length_nil, List.set_cons_succ, List.set_cons_zero, Nat.reduceLT, va_up_eq, va_up_nl, g0, h0, h1]
      exact fin _ r0.symm
    · simp only [eX5_count_0, eX5_count_1, eX5_count_44, eX5_count_45, eX5_count_48, eX5_count_51, eX5_count_52, eX5_count_53, eX5_count_56, eX5_count_59, eX5_count_60, eX5_count_61, eX5_count_64, eX5_count_67, eX5_count_68, eX5_count_69, eX5_count_72, eX5_count_75, eX5_count_76, eX5_count_77, eX5_count_80, eX5_count_83, eX5_count_84, eX5_count_85, eX5_count_88, eX5_count_91, eX5_count_92, eX5_count_93, eX5_count_96, eX5_count_99, eX5_count_100, eX5_count_101, Option.toList_some, Option.toList_none, List.cons_append, List.nil_append, gcat_nil, gcat_cons, cat_int, cat_ref, cat_null, cat_ret, cat_long, grc_ref, narZ0, narZ1, true_and, and_true, decide_true, Nat.reduceAdd, Nat.reduceLeDiff, if_true, if_false, eq_self, gfld_in, gobj_in, garr_in, garq_in, glen_in, gisO_in, ex_some, List.getElem?_cons_succ, List.getElem?_cons_zero, List.length_cons, List.length_nil, List.set_cons_succ, List.set_cons_zero, Nat.reduceLT, va_up_eq, va_up_nl, g1, h0, h1]
      exact fin _ r31.symm
    · simp only [eX5_count_0, eX5_count_1, eX5_count_44, eX5_count_45, eX5_count_48, eX5_count_51, eX5_count_52, eX5_count_53, eX5_count_56, eX5_count_59, eX5_count_60, eX5_count_61, eX5_count_64, eX5_count_67, eX5_count_68, eX5_count_69, eX5_count_72, eX5_count_75, eX5_count_76, eX5_count_77, eX5_count_80, eX5_count_83, eX5_count_84, eX5_count_85, eX5_count_88, eX5_count_91, eX5_count_92, eX5_count_93, eX5_count_96, eX5_count_99, eX5_count_100, eX5_count_101, Option.toList_some, Option.toList_none, List.cons_append, List.nil_append, gcat_nil, gcat_cons, cat_int, cat_ref, cat_null, cat_ret, cat_long, grc_ref, narZ0, narZ1, true_and, and_true, decide_true, Nat.reduceAdd, Nat.reduceLeDiff, if_true, if_false, eq_self, gfld_in, gobj_in, garr_in, garq_in, glen_in, gisO_in, ex_some, List.getElem?_cons_succ, List.getElem?_cons_zero, List.length_cons, List.length_nil, List.set_cons_succ, List.set_cons_zero, Nat.reduceLT, va_up_eq, va_up_nl, g2, h0, h1]
      exact fin _ rfl
    · simp only [eX5_count_0, eX5_count_1, eX5_count_44, eX5_count_45, eX5_count_48, eX5_count_51, eX5_count_52, eX5_count_53, eX5_count_56, eX5_count_59, eX5_count_60, eX5_count_61, eX5_count_64, eX5_count_67, eX5_count_68, eX5_count_69, eX5_count_72, eX5_count_75, eX5_count_76, eX5_count_77, eX5_count_80, eX5_count_83, eX5_count_84, eX5_count_85, eX5_count_88, eX5_count_91, eX5_count_92, eX5_count_93, eX5_count_96, eX5_count_99, eX5_count_100, eX5_count_101, Option.toList_some, Option.toList_none, List.cons_append, List.nil_append, gcat_nil, gcat_cons, cat_int, cat_ref, cat_null, cat_ret, cat_long, grc_ref, narZ0, narZ1, true_and, and_true, decide_true, Nat.reduceAdd, Nat.reduceLeDiff, if_true, if_false, eq_self, gfld_in, gobj_in, garr_in, garq_in, glen_in, gisO_in, ex_some, List.getElem?_cons_succ, List.getElem?_cons_zero, List.length_cons, List.length_nil, List.set_cons_succ, List.set_cons_zero, Nat.reduceLT, va_up_eq, va_up_nl, g3, h0, h1, c_coinsInAll hT]
      refine fin _ ?_
      show gfor (fun i a => a + co i) 0 7 0 = gfor (fun i a => a + nw (51 + i)) 0 7 0
      exact gfor_congr _ _ _ (fun i _ hi a => by rw [rc i (by omega)])
    · simp only [eX5_count_0, eX5_count_1, eX5_count_44, eX5_count_45, eX5_count_48, eX5_count_51, eX5_count_52, eX5_count_53, eX5_count_56, eX5_count_59, eX5_count_60, eX5_count_61, eX5_count_64, eX5_count_67, eX5_count_68, eX5_count_69, eX5_count_72, eX5_count_75, eX5_count_76, eX5_count_77, eX5_count_80, eX5_count_83, eX5_count_84, eX5_count_85, eX5_count_88, eX5_count_91, eX5_count_92, eX5_count_93, eX5_count_96, eX5_count_99, eX5_count_100, eX5_count_101, Option.toList_some, Option.toList_none, List.cons_append, List.nil_append, gcat_nil, gcat_cons, cat_int, cat_ref, cat_null, cat_ret, cat_long, grc_ref, narZ0, narZ1, true_and, and_true, decide_true, Nat.reduceAdd, Nat.reduceLeDiff, if_true, if_false, eq_self, gfld_in, gobj_in, garr_in, garq_in, glen_in, gisO_in, ex_some, List.getElem?_cons_succ, List.getElem?_cons_zero, List.length_cons, List.length_nil, List.set_cons_succ, List.set_cons_zero, Nat.reduceLT, va_up_eq, va_up_nl, g4, h0, h20]
      exact fin _ rfl
    · simp only [eX5_count_0, eX5_count_1, eX5_count_44, eX5_count_45, eX5_count_48, eX5_count_51, eX5_count_52, eX5_count_53, eX5_count_56, eX5_count_59, eX5_count_60, eX5_count_61, eX5_count_64, eX5_count_67, eX5_count_68, eX5_count_69, eX5_count_72, eX5_count_75, eX5_count_76, eX5_count_77, eX5_count_80, eX5_count_83, eX5_count_84, eX5_count_85, eX5_count_88, eX5_count_91, eX5_count_92, eX5_count_93, eX5_count_96, eX5_count_99, eX5_count_100, eX5_count_101, Option.toList_some, Option.toList_none, List.cons_append, List.nil_append, gcat_nil, gcat_cons, cat_int, cat_ref, cat_null, cat_ret, cat_long, grc_ref, narZ0, narZ1, true_and, and_true, decide_true, Nat.reduceAdd, Nat.reduceLeDiff, if_true, if_false, eq_self, gfld_in, gobj_in, garr_in, garq_in, glen_in, gisO_in, ex_some, List.getElem?_cons_succ, List.getElem?_cons_zero, List.length_cons, List.length_nil, List.set_cons_succ, List.set_cons_zero, Nat.reduceLT, va_up_eq, va_up_nl, g55, h0, h8]
      exact fin _ rfl
    · simp only [eX5_count_0, eX5_count_1, eX5_count_44, eX5_count_45, eX5_count_48, eX5_count_51, eX5_count_52, eX5_count_53, eX5_count_56, eX5_count_59, eX5_count_60, eX5_count_61, eX5_count_64, eX5_count_67, eX5_count_68, eX5_count_69, eX5_count_72, eX5_count_75, eX5_count_76, eX5_count_77, eX5_count_80, eX5_count_83, eX5_count_84, eX5_count_85, eX5_count_88, eX5_count_91, eX5_count_92, eX5_count_93, eX5_count_96, eX5_count_99, eX5_count_100, eX5_count_101, Option.toList_some, Option.toList_none, List.cons_append, List.nil_append, gcat_nil, gcat_cons, cat_int, cat_ref, cat_null, cat_ret, cat_long, grc_ref, narZ0, narZ1, true_and, and_true, decide_true, Nat.reduceAdd, Nat.reduceLeDiff, if_true, if_false, eq_self, gfld_in, gobj_in, garr_in, garq_in, glen_in, gisO_in, ex_some, List.getElem?_cons_succ, List.getElem?_cons_zero, List.length_cons, List.length_nil, List.set_cons_succ, List.set_cons_zero, Nat.reduceLT, va_up_eq, va_up_nl, g6, h0, h5]
      exact fin _ rfl
  · have e : gtab 1 99 0 [43, 51, 59, 67, 75, 83, 91] a = 100 := gtab_out (hi := 6) rfl (by decide) q
    simp only [eX5_count_0, eX5_count_1, eX5_count_44, eX5_count_45, eX5_count_48, eX5_count_51, eX5_count_52, eX5_count_53, eX5_count_56, eX5_count_59, eX5_count_60, eX5_count_61, eX5_count_64, eX5_count_67, eX5_count_68, eX5_count_69, eX5_count_72, eX5_count_75, eX5_count_76, eX5_count_77, eX5_count_80, eX5_count_83, eX5_count_84, eX5_count_85, eX5_count_88, eX5_count_91, eX5_count_92, eX5_count_93, eX5_count_96, eX5_count_99, eX5_count_100, eX5_count_101, Option.toList_some, Option.toList_none, List.cons_append, List.nil_append, gcat_nil, gcat_cons, cat_int, cat_ref, cat_null, cat_ret, cat_long, grc_ref, narZ0, narZ1, true_and, and_true, decide_true, Nat.reduceAdd, Nat.reduceLeDiff, if_true, if_false, eq_self, gfld_in, gobj_in, garr_in, garq_in, glen_in, gisO_in, ex_some, List.getElem?_cons_succ, List.getElem?_cons_zero, List.length_cons, List.length_nil, List.set_cons_succ, List.set_cons_zero, Nat.reduceLT, va_up_eq, va_up_nl, e]
    refine ⟨_, rfl, ?_⟩
    obtain ⟨rd, tx, pz, tk, ta, va, fa, it, al, ln, fz, fb, be, fo, fm, io, hw, ht, hF⟩ := hM; refine ⟨by rw [hw]; rfl, ?_⟩; rw [hw]
    rw [c6_count_bad q]
    exact ⟨rfl, LI_mk hC ht hF⟩
theorem s_bin (hL : LI w n k) {a f : Int32} : GG X 98 163 [.ref 0, .int a, .int f] [.ref 24, .int a, .int f] n k w := by
  obtain ⟨nw, ps, d, im, ik, tv, l, S, Fk, Fx, Fb, hC, hM⟩ := hL
  have hC' := hC
  obtain ⟨h0, ⟨kr, ts, co, kc, tc, rm, jm, K, N, hT, hR⟩, hH, hTe, hPl, hWi⟩ := hC'
  have hR' := hR
  obtain ⟨hK, hN, r0, e1, r31, e2, rk, rt, e3, rc, e4, hrg⟩ := hR'
  subst e1; subst e2; subst e3; subst e4
  have h1 : w 1 = .inr (3, [.ref 2, .ref 3, .ref 4, .int (nI K), .int (nI N), .int (nw 50), .int (nw 58)]) := hT.1
  have hd6 : d ≤ 6 := by obtain ⟨_, _, _, _, _, _, _, h, _⟩ := hH; exact h
  have g5 : gisO 0 (w 5) = true := by obtain ⟨nx, rg, ig, h5, _⟩ := hH; rw [h5]; rfl
  unfold GG
  have bad : ¬ ((0 ≤ a ∧ a ≤ nI N) ∧ 0 ≤ f ∧ f ≤ 1) → gEv (gT X) 98 20 [.ref 0, .int a, .int f] [] n k w (fun v n1 k1 w1 => ∃ y, v = some (.int y) ∧ gisO 6 (w1 24) = true ∧ gEv (gT X) 163 0 [.ref 24, .int a, .int f] [] n1 k1 w1 (fun v2 n2 k2 w2 => v2 = some (.int y) ∧ LI w2 n2 k2)) := by
    intro q
    simp only [eX5_bin_20, eX5_bin_21, Option.toList_some, Option.toList_none, List.cons_append, List.nil_append, gcat_nil, gcat_cons, cat_int, cat_ref, cat_null, cat_ret, cat_long, grc_ref, narZ0, narZ1, true_and, and_true, decide_true, Nat.reduceAdd, Nat.reduceLeDiff, if_true, if_false, eq_self, gfld_in, gobj_in, garr_in, garq_in, glen_in, gisO_in, ex_some, List.getElem?_cons_succ, List.getElem?_cons_zero, List.length_cons, List.length_nil, List.set_cons_succ, List.set_cons_zero, Nat.reduceLT, va_up_eq, va_up_nl]
    refine ⟨_, rfl, ?_⟩
    obtain ⟨rd, tx, pz, tk, ta, va, fa, it, al, ln, fz, fb, be, fo, fm, io, hw, ht, hF⟩ := hM; refine ⟨by rw [hw]; rfl, ?_⟩; rw [hw]
    rw [c6_bin_bad r31 q]
    exact ⟨rfl, LI_mk hC ht hF⟩
  simp only [eX5_bin_0, eX5_bin_1, eX5_bin_4, eX5_bin_5, eX5_bin_8, Option.toList_some, Option.toList_none, List.cons_append, List.nil_append, gcat_nil, gcat_cons, cat_int, cat_ref, cat_null, cat_ret, cat_long, grc_ref, narZ0, narZ1, true_and, and_true, decide_true, Nat.reduceAdd, Nat.reduceLeDiff, if_true, if_false, eq_self, gfld_in, gobj_in, garr_in, garq_in, glen_in, gisO_in, ex_some, List.getElem?_cons_succ, List.getElem?_cons_zero, List.length_cons, List.length_nil, List.set_cons_succ, List.set_cons_zero, Nat.reduceLT, va_up_eq, va_up_nl, h0, h1, c_hasBin hT, gb_0]
  by_cases q : 0 ≤ a ∧ a ≤ nI N
  · rw [if_neg (fun z => z q)]
    simp only [eX5_bin_11, eX5_bin_12, eX5_bin_13, eX5_bin_14, eX5_bin_17, Option.toList_some, Option.toList_none, List.cons_append, List.nil_append, gcat_nil, gcat_cons, cat_int, cat_ref, cat_null, cat_ret, cat_long, grc_ref, narZ0, narZ1, true_and, and_true, decide_true, Nat.reduceAdd, Nat.reduceLeDiff, if_true, if_false, eq_self, gfld_in, gobj_in, garr_in, garq_in, glen_in, gisO_in, ex_some, List.getElem?_cons_succ, List.getElem?_cons_zero, List.length_cons, List.length_nil, List.set_cons_succ, List.set_cons_zero, Nat.reduceLT, va_up_eq, va_up_nl, c_within, gb_0]
    by_cases q2 : 0 ≤ f ∧ f ≤ 1
    · rw [if_pos (fun z => z q2)]
      obtain ⟨b, hb, _, hb2⟩ := inR_of (lo := 0) (hi := N) (by omega) (by omega) q
      obtain ⟨g, hg, _, hg2⟩ := inR_of (lo := 0) (hi := 1) (by omega) (by omega) q2
      subst hb
      subst hg
      have fin : ∀ r, r = (if g = 0 then mks (fun c => mbs (fun x => mbc nw (-9) 0 (fun p => p) N c (nI x)) (mWe nw c)) (nI b) K else nw (51 + b)) → ∃ y, some (Value.int r) = some (.int y) ∧ gisO 6 (w 24) = true ∧ gEv (gT X) 163 0 [.ref 24, .int (nI b), .int (nI g)] [] n k w (fun v2 n2 k2 w2 => v2 = some (.int y) ∧ LI w2 n2 k2) := by
        intro r hr
        refine ⟨_, rfl, ?_⟩
        obtain ⟨rd, tx, pz, tk, ta, va, fa, it, al, ln, fz, fb, be, fo, fm, io, hw, ht, hF⟩ := hM; refine ⟨by rw [hw]; rfl, ?_⟩; rw [hw]
        rw [c6_bin hK r0 (p_wm hR) hN r31 hb2 hg2]
        exact ⟨by rw [hr], LI_mk hC ht hF⟩
      have hc : g = 0 ∨ g = 1 := by omega
      have z10 : ¬ nI 1 = 0 := by decide
      have z00 : nI 0 = 0 := rfl
      rcases hc with rfl | rfl
      · simp only [eX5_bin_22, eX5_bin_23, eX5_bin_26, eX5_bin_27, eX5_bin_30, eX5_bin_31, eX5_bin_34, eX5_bin_45, Option.toList_some, Option.toList_none, List.cons_append, List.nil_append, gcat_nil, gcat_cons, cat_int, cat_ref, cat_null, cat_ret, cat_long, grc_ref, narZ0, narZ1, true_and, and_true, decide_true, Nat.reduceAdd, Nat.reduceLeDiff, if_true, if_false, eq_self, gfld_in, gobj_in, garr_in, garq_in, glen_in, gisO_in, ex_some, List.getElem?_cons_succ, List.getElem?_cons_zero, List.length_cons, List.length_nil, List.set_cons_succ, List.set_cons_zero, Nat.reduceLT, va_up_eq, va_up_nl, z00, not_true_eq_false, h0, h1, c_kindsOf hN hK hT (p_wg hR)]
        exact fin _ (by rw [if_pos rfl]; exact p_ks hR)
      · simp only [eX5_bin_22, eX5_bin_23, eX5_bin_37, eX5_bin_38, eX5_bin_41, eX5_bin_42, eX5_bin_45, Option.toList_some, Option.toList_none, List.cons_append, List.nil_append, gcat_nil, gcat_cons, cat_int, cat_ref, cat_null, cat_ret, cat_long, grc_ref, narZ0, narZ1, true_and, and_true, decide_true, Nat.reduceAdd, Nat.reduceLeDiff, if_true, if_false, eq_self, gfld_in, gobj_in, garr_in, garq_in, glen_in, gisO_in, ex_some, List.getElem?_cons_succ, List.getElem?_cons_zero, List.length_cons, List.length_nil, List.set_cons_succ, List.set_cons_zero, Nat.reduceLT, va_up_eq, va_up_nl, z10, not_false_eq_true, h0, h1, c_coinsIn hT]
        exact fin _ (by rw [if_neg (by omega), gof_at (by omega) (by omega), rc b (by omega)])
    · rw [if_neg (fun z => z q2)]
      exact bad (fun z => q2 z.2)
  · rw [if_pos q]
    exact bad (fun z => q z.1)
theorem s_coin (hL : LI w n k) {a b c f : Int32} : GG X 99 164 [.ref 0, .int a, .int b, .int c, .int f, .null] [.ref 24, .int a, .int b, .int c, .int f, .null] n k w := by
  obtain ⟨nw, ps, d, im, ik, tv, l, S, Fk, Fx, Fb, hC, hM⟩ := hL
  have hC' := hC
  obtain ⟨h0, ⟨kr, ts, co, kc, tc, rm, jm, K, N, hT, hR⟩, hH, hTe, hPl, hWi⟩ := hC'
  have hR' := hR
  obtain ⟨hK, hN, r0, e1, r31, e2, rk, rt, e3, rc, e4, hrg⟩ := hR'
  subst e1; subst e2; subst e3; subst e4
  have h1 : w 1 = .inr (3, [.ref 2, .ref 3, .ref 4, .int (nI K), .int (nI N), .int (nw 50), .int (nw 58)]) := hT.1
  have hd6 : d ≤ 6 := by obtain ⟨_, _, _, _, _, _, _, h, _⟩ := hH; exact h
  have g5 : gisO 0 (w 5) = true := by obtain ⟨nx, rg, ig, h5, _⟩ := hH; rw [h5]; rfl
  unfold GG
  have bad : ¬ (gcn2 a b c ∧ 0 ≤ f ∧ f ≤ 2) → gEv (gT X) 99 19 [.ref 0, .int a, .int b, .int c, .int f, .null] [] n k w (fun v n1 k1 w1 => ∃ y, v = some (.int y) ∧ gisO 6 (w1 24) = true ∧ gEv (gT X) 164 0 [.ref 24, .int a, .int b, .int c, .int f, .null] [] n1 k1 w1 (fun v2 n2 k2 w2 => v2 = some (.int y) ∧ LI w2 n2 k2)) := by
    intro q
    simp only [eX5_coin_19, eX5_coin_20, Option.toList_some, Option.toList_none, List.cons_append, List.nil_append, gcat_nil, gcat_cons, cat_int, cat_ref, cat_null, cat_ret, cat_long, grc_ref, narZ0, narZ1, true_and, and_true, decide_true, Nat.reduceAdd, Nat.reduceLeDiff, if_true, if_false, eq_self, gfld_in, gobj_in, garr_in, garq_in, glen_in, gisO_in, ex_some, List.getElem?_cons_succ, List.getElem?_cons_zero, List.length_cons, List.length_nil, List.set_cons_succ, List.set_cons_zero, Nat.reduceLT, va_up_eq, va_up_nl]
    refine ⟨_, rfl, ?_⟩
    obtain ⟨rd, tx, pz, tk, ta, va, fa, it, al, ln, fz, fb, be, fo, fm, io, hw, ht, hF⟩ := hM; refine ⟨by rw [hw]; rfl, ?_⟩; rw [hw]
    rw [c6_coin_bad q]
    exact ⟨rfl, LI_mk hC ht hF⟩
  simp only [eX5_coin_0, eX5_coin_1, eX5_coin_2, eX5_coin_3, eX5_coin_6, Option.toList_some, Option.toList_none, List.cons_append, List.nil_append, gcat_nil, gcat_cons, cat_int, cat_ref, cat_null, cat_ret, cat_long, grc_ref, narZ0, narZ1, true_and, and_true, decide_true, Nat.reduceAdd, Nat.reduceLeDiff, if_true, if_false, eq_self, gfld_in, gobj_in, garr_in, garq_in, glen_in, gisO_in, ex_some, List.getElem?_cons_succ, List.getElem?_cons_zero, List.length_cons, List.length_nil, List.set_cons_succ, List.set_cons_zero, Nat.reduceLT, va_up_eq, va_up_nl, c_coinFits, gb_0]
  by_cases q : (1 ≤ a ∧ a ≤ 99) ∧ (1 ≤ b ∧ b ≤ 99) ∧ (0 ≤ c ∧ c ≤ 2)
  · rw [if_neg (fun z => z q)]
    simp only [eX5_coin_9, eX5_coin_11, eX5_coin_12, eX5_coin_13, eX5_coin_16, Option.toList_some, Option.toList_none, List.cons_append, List.nil_append, gcat_nil, gcat_cons, cat_int, cat_ref, cat_null, cat_ret, cat_long, grc_ref, narZ0, narZ1, true_and, and_true, decide_true, Nat.reduceAdd, Nat.reduceLeDiff, if_true, if_false, eq_self, gfld_in, gobj_in, garr_in, garq_in, glen_in, gisO_in, ex_some, List.getElem?_cons_succ, List.getElem?_cons_zero, List.length_cons, List.length_nil, List.set_cons_succ, List.set_cons_zero, Nat.reduceLT, va_up_eq, va_up_nl, c_within, gb_0]
    by_cases q2 : 0 ≤ f ∧ f ≤ 2
    · rw [if_pos (fun z => z q2)]
      obtain ⟨g, hg, _, hg2⟩ := inR_of (lo := 0) (hi := 2) (by omega) (by omega) q2
      subst hg
      have fin : ∀ r, r = (if g = 0 then nI (mbn nw (-9) 0 (fun p => p) N a b c) else if g = 1 then mks (fun c => mbs (fun x => mbc nw (-9) 0 (fun p => p) N c (nI x)) (mWe nw c)) (nI (mbn nw (-9) 0 (fun p => p) N a b c)) K else mtl nw (fun p => p) (nI (mbn nw (-9) 0 (fun p => p) N a b c)) 0 N 0) → ∃ y, some (Value.int r) = some (.int y) ∧ gisO 6 (w 24) = true ∧ gEv (gT X) 164 0 [.ref 24, .int a, .int b, .int c, .int (nI g), .null] [] n k w (fun v2 n2 k2 w2 => v2 = some (.int y) ∧ LI w2 n2 k2) := by
        intro r hr
        refine ⟨_, rfl, ?_⟩
        obtain ⟨rd, tx, pz, tk, ta, va, fa, it, al, ln, fz, fb, be, fo, fm, io, hw, ht, hF⟩ := hM; refine ⟨by rw [hw]; rfl, ?_⟩; rw [hw]
        rw [c6_coin hK r0 (p_wm hR) hN r31 (show gcn2 a b c from q) hg2]
        exact ⟨by rw [hr], LI_mk hC ht hF⟩
      have hc : g = 0 ∨ g = 1 ∨ g = 2 := by omega
      have z10 : ¬ nI 1 = 0 := by decide
      have z20 : ¬ nI 2 = 0 := by decide
      have z21 : ¬ nI 2 = 1 := by decide
      have z00 : nI 0 = 0 := rfl
      have z11 : nI 1 = 1 := rfl
      have z10' : ¬ (1 : Int32) = 0 := by decide
      simp only [eX5_coin_21, eX5_coin_22, eX5_coin_25, eX5_coin_26, eX5_coin_27, eX5_coin_28, eX5_coin_29, eX5_coin_32, eX5_coin_32b, eX5_coin_32c, eX5_coin_32d, eX5_coin_34, Option.toList_some, Option.toList_none, List.cons_append, List.nil_append, gcat_nil, gcat_cons, cat_int, cat_ref, cat_null, cat_ret, cat_long, grc_ref, narZ0, narZ1, true_and, and_true, decide_true, Nat.reduceAdd, Nat.reduceLeDiff, if_true, if_false, eq_self, gfld_in, gobj_in, garr_in, garq_in, glen_in, gisO_in, ex_some, List.getElem?_cons_succ, List.getElem?_cons_zero, List.length_cons, List.length_nil, List.set_cons_succ, List.set_cons_zero, Nat.reduceLT, va_up_eq, va_up_nl, h0, h1, c_binOf hN hT, p_bn1 hR]
      rcases hc with rfl | rfl | rfl
      · simp only [eX5_coin_36, eX5_coin_39, eX5_coin_41, Option.toList_some, Option.toList_none, List.cons_append, List.nil_append, gcat_nil, gcat_cons, cat_int, cat_ref, cat_null, cat_ret, cat_long, grc_ref, narZ0, narZ1, true_and, and_true, decide_true, Nat.reduceAdd, Nat.reduceLeDiff, if_true, if_false, eq_self, gfld_in, gobj_in, garr_in, garq_in, glen_in, gisO_in, ex_some, List.getElem?_cons_succ, List.getElem?_cons_zero, List.length_cons, List.length_nil, List.set_cons_succ, List.set_cons_zero, Nat.reduceLT, va_up_eq, va_up_nl, z00, not_true_eq_false]
        exact fin _ (by rw [if_pos rfl])
      · rw [z11]
        simp only [eX5_coin_36, eX5_coin_42, eX5_coin_44, eX5_coin_45, eX5_coin_48, eX5_coin_49, eX5_coin_52, eX5_coin_54, eX5_coin_57, eX5_coin_69, Option.toList_some, Option.toList_none, List.cons_append, List.nil_append, gcat_nil, gcat_cons, cat_int, cat_ref, cat_null, cat_ret, cat_long, grc_ref, narZ0, narZ1, true_and, and_true, decide_true, Nat.reduceAdd, Nat.reduceLeDiff, if_true, if_false, eq_self, gfld_in, gobj_in, garr_in, garq_in, glen_in, gisO_in, ex_some, List.getElem?_cons_succ, List.getElem?_cons_zero, List.length_cons, List.length_nil, List.set_cons_succ, List.set_cons_zero, Nat.reduceLT, va_up_eq, va_up_nl, z10', not_false_eq_true, not_true_eq_false, h0, h1, c_kindsOf hN hK hT (p_wg hR)]
        exact fin _ (by rw [if_neg (by omega), if_pos rfl]; exact p_ks hR)
      · simp only [eX5_coin_36, eX5_coin_42, eX5_coin_44, eX5_coin_45, eX5_coin_60, eX5_coin_61, eX5_coin_64, eX5_coin_66, eX5_coin_69, Option.toList_some, Option.toList_none, List.cons_append, List.nil_append, gcat_nil, gcat_cons, cat_int, cat_ref, cat_null, cat_ret, cat_long, grc_ref, narZ0, narZ1, true_and, and_true, decide_true, Nat.reduceAdd, Nat.reduceLeDiff, if_true, if_false, eq_self, gfld_in, gobj_in, garr_in, garq_in, glen_in, gisO_in, ex_some, List.getElem?_cons_succ, List.getElem?_cons_zero, List.length_cons, List.length_nil, List.set_cons_succ, List.set_cons_zero, Nat.reduceLT, va_up_eq, va_up_nl, z20, z21, not_false_eq_true, h0, h1, c_tollTo hN hT]
        exact fin _ (by rw [if_neg (by omega), if_neg (by omega)]; exact p_tl hR N 0 0 (by omega))
    · rw [if_neg (fun z => z q2)]
      exact bad (fun z => q2 z.2)
  · rw [if_pos q]
    exact bad (fun z => q z.1)
theorem s_suspects (hL : LI w n k) {a : Int32} : GG X 104 178 [.ref 0, .int a] [.ref 24, .int a] n k w := by
  obtain ⟨nw, ps, d, im, ik, tv, l, S, Fk, Fx, Fb, hC, hM⟩ := hL
  have hC' := hC
  obtain ⟨h0, ⟨kr, ts, co, kc, tc, rm, jm, K, N, hT, hR⟩, hH, hTe, hPl, hWi⟩ := hC'
  have hR' := hR
  obtain ⟨hK, hN, r0, e1, r31, e2, rk, rt, e3, rc, e4, hrg⟩ := hR'
  subst e1; subst e2; subst e3; subst e4
  have h1 : w 1 = .inr (3, [.ref 2, .ref 3, .ref 4, .int (nI K), .int (nI N), .int (nw 50), .int (nw 58)]) := hT.1
  have hd6 : d ≤ 6 := by obtain ⟨_, _, _, _, _, _, _, h, _⟩ := hH; exact h
  have g5 : gisO 0 (w 5) = true := by obtain ⟨nx, rg, ig, h5, _⟩ := hH; rw [h5]; rfl
  unfold GG
  obtain ⟨sr, su, ty, sz, h20, h21, h22, h23, hF0⟩ := hWi
  have hw8 : wW w sr su ty (nI S) sz = w := wW_self h20 h21 h22 h23
  have t0' : ∀ {sr su ty : Nat → Int32} {sc sz : Int32}, wW w sr su ty sc sz 0 = (.inr (5, [.ref 1, .ref 5, .ref 7, .ref 8, .ref 15, .ref 20]) : gE) := by intros; rw [wW_ne (by omega), h0]
  simp only [eX5_suspects_0, eX5_suspects_1, eX5_suspects_2, eX5_suspects_3, eX5_suspects_6, Option.toList_some, Option.toList_none, List.cons_append, List.nil_append, gcat_nil, gcat_cons, cat_int, cat_ref, cat_null, cat_ret, cat_long, grc_ref, narZ0, narZ1, true_and, and_true, decide_true, Nat.reduceAdd, Nat.reduceLeDiff, if_true, if_false, eq_self, gfld_in, gobj_in, garr_in, garq_in, glen_in, gisO_in, ex_some, List.getElem?_cons_succ, List.getElem?_cons_zero, List.length_cons, List.length_nil, List.set_cons_succ, List.set_cons_zero, Nat.reduceLT, va_up_eq, va_up_nl, c_within, gb_0]
  by_cases q : 0 ≤ a ∧ a ≤ 1
  · rw [if_pos (fun z => z q)]
    obtain ⟨g, hg, _, hg2⟩ := inR_of (lo := 0) (hi := 1) (by omega) (by omega) q
    subst hg
    rw [← hw8]
    simp only [eX5_suspects_12, eX5_suspects_13, eX5_suspects_16, eX5_suspects_17, eX5_suspects_20, Option.toList_some, Option.toList_none, List.cons_append, List.nil_append, gcat_nil, gcat_cons, cat_int, cat_ref, cat_null, cat_ret, cat_long, grc_ref, narZ0, narZ1, true_and, and_true, decide_true, Nat.reduceAdd, Nat.reduceLeDiff, if_true, if_false, eq_self, gfld_in, gobj_in, garr_in, garq_in, glen_in, gisO_in, ex_some, List.getElem?_cons_succ, List.getElem?_cons_zero, List.length_cons, List.length_nil, List.set_cons_succ, List.set_cons_zero, Nat.reduceLT, va_up_eq, va_up_nl, t0', wW_20]
    refine c_gather hT hK hN hF0 ?_
    intro su2 hsu
    have hlen : (psl kr ts K N Fk Fx Fb S 0 (2 * N + 1)).length ≤ 13 := by
      unfold psl
      have := gfl_len (fun u => pct ts u ∧ pxa kr ts K N Fk Fx Fb S u) (2 * N + 1) 0
      omega
    have fin : ∀ r, r = (if g = 0 then nI (msl nw K N Fk Fx Fb S 0 (2 * N + 1)).length else mfs (msl nw K N Fk Fx Fb S 0 (2 * N + 1))) → ∃ y, some (Value.int r) = some (.int y) ∧ gisO 6 ((wW w sr su2 ty (nI S) (nI (psl kr ts K N Fk Fx Fb S 0 (2 * N + 1)).length)) 24) = true ∧ gEv (gT X) 178 0 [.ref 24, .int (nI g)] [] n k (wW w sr su2 ty (nI S) (nI (psl kr ts K N Fk Fx Fb S 0 (2 * N + 1)).length)) (fun v2 n2 k2 w2 => v2 = some (.int y) ∧ LI w2 n2 k2) := by
      intro r hr
      refine ⟨_, rfl, ?_⟩
      obtain ⟨rd, tx, pz, tk, ta, va, fa, it, al, ln, fz, fb, be, fo, fm, io, hw, ht, hF⟩ := RM_wW (sr := sr) (su := su2) (ty := ty) (sc := nI S) (sz := nI (psl kr ts K N Fk Fx Fb S 0 (2 * N + 1)).length) hM; refine ⟨by rw [hw]; rfl, ?_⟩; rw [hw]
      refine c6_suspects hN r31 hK r0 hF hg2 ?_
      intro al ln fz fb fo
      exact ⟨by rw [hr], LI_mk (RC_wW hC hF0) ht hF⟩
    have hc : g = 0 ∨ g = 1 := by omega
    have z10 : ¬ nI 1 = 0 := by decide
    have z00 : nI 0 = 0 := rfl
    rcases hc with rfl | rfl
    · simp only [eX5_suspects_23, eX5_suspects_24, eX5_suspects_27, eX5_suspects_28, eX5_suspects_31, eX5_suspects_34, eX5_suspects_44, Option.toList_some, Option.toList_none, List.cons_append, List.nil_append, gcat_nil, gcat_cons, cat_int, cat_ref, cat_null, cat_ret, cat_long, grc_ref, narZ0, narZ1, true_and, and_true, decide_true, Nat.reduceAdd, Nat.reduceLeDiff, if_true, if_false, eq_self, gfld_in, gobj_in, garr_in, garq_in, glen_in, gisO_in, ex_some, List.getElem?_cons_succ, List.getElem?_cons_zero, List.length_cons, List.length_nil, List.set_cons_succ, List.set_cons_zero, Nat.reduceLT, va_up_eq, va_up_nl, z00, not_true_eq_false, t0', wW_20]
      exact fin _ (by rw [if_pos rfl, p_sl hR])
    · simp only [eX5_suspects_23, eX5_suspects_24, eX5_suspects_37, eX5_suspects_38, eX5_suspects_41, eX5_suspects_44, Option.toList_some, Option.toList_none, List.cons_append, List.nil_append, gcat_nil, gcat_cons, cat_int, cat_ref, cat_null, cat_ret, cat_long, grc_ref, narZ0, narZ1, true_and, and_true, decide_true, Nat.reduceAdd, Nat.reduceLeDiff, if_true, if_false, eq_self, gfld_in, gobj_in, garr_in, garq_in, glen_in, gisO_in, ex_some, List.getElem?_cons_succ, List.getElem?_cons_zero, List.length_cons, List.length_nil, List.set_cons_succ, List.set_cons_zero, Nat.reduceLT, va_up_eq, va_up_nl, z10, not_false_eq_true, t0', wW_20, c_firstSuspect hlen hsu]
      exact fin _ (by rw [if_neg (by omega), p_sl hR])
  · rw [if_neg (fun z => z q)]
    simp only [eX5_suspects_9, eX5_suspects_11, Option.toList_some, Option.toList_none, List.cons_append, List.nil_append, gcat_nil, gcat_cons, cat_int, cat_ref, cat_null, cat_ret, cat_long, grc_ref, narZ0, narZ1, true_and, and_true, decide_true, Nat.reduceAdd, Nat.reduceLeDiff, if_true, if_false, eq_self, gfld_in, gobj_in, garr_in, garq_in, glen_in, gisO_in, ex_some, List.getElem?_cons_succ, List.getElem?_cons_zero, List.length_cons, List.length_nil, List.set_cons_succ, List.set_cons_zero, Nat.reduceLT, va_up_eq, va_up_nl]
    refine ⟨_, rfl, ?_⟩
    obtain ⟨rd, tx, pz, tk, ta, va, fa, it, al, ln, fz, fb, be, fo, fm, io, hw, ht, hF⟩ := hM; refine ⟨by rw [hw]; rfl, ?_⟩; rw [hw]
    rw [c6_suspects_bad q]
    exact ⟨rfl, LI_mk hC ht hF⟩
end AB
