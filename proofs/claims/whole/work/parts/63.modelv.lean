/-! THE MODEL: items -/
def pbd (q : Nat) (vs : Nat → Nat) (f : Nat) : Nat × Nat := if q = 4 then (if f = 0 then (1, 99) else if f = 1 then (1, 99) else if f = 2 then (0, 2) else if f = 3 then (0, if vs 1 ≤ 9 then vs 1 - 1 else 9) else (0, 99)) else if q = 8 then (1, 99) else if f = 0 then (if q = 7 then (0, 2) else (1, 99)) else (1, 9)
def pln (q : Nat) : Nat := if q = 4 then 5 else if q = 8 then 1 else 2
def upn (vs : Nat → Nat) (f v : Nat) : Nat → Nat := fun z => if z = f then v else vs z
def prd (tv : Nat → Nat) (l q : Nat) : Nat → Nat → (Nat → Nat) → Nat → Nat ⊕ ((Nat → Nat) × Nat)
  | 0, _, vs, p => .inr (vs, p)
  | D + 1, f, vs, p => if tOk tv l (tSk tv l p) (pbd q vs f).1 (pbd q vs f).2 then prd tv l q D (f + 1) (upn vs f (tN tv l (tSk tv l p))) (tEn tv l (tSk tv l p)) else .inl (tSk tv l p)
abbrev pno (K N q : Nat) : Prop := q < 4 ∨ (q = 4 ∧ K = 6) ∨ (5 ≤ q ∧ q ≤ 7 ∧ N = 6)
def pit (tv : Nat → Nat) (l K N q s p : Nat) : Nat ⊕ ((Nat → Nat) × Nat) := if pno K N q then .inl s else prd tv l q (pln q) 0 (fun _ => 0) p
def pK (q K : Nat) : Nat := if q = 4 then K + 1 else K
def pN (q N : Nat) : Nat := if 5 ≤ q ∧ q ≤ 7 then N + 1 else N
def mput (rd : Nat → Int32) (q K N : Nat) (vs : Nat → Nat) : Nat → Int32 := if q = 4 then upd (upd (upd (upd (upd (upd rd (5 * K + 1) (nI (vs 0))) (5 * K + 2) (nI (vs 1))) (5 * K + 3) (nI (vs 2))) (5 * K + 4) (nI (vs 3))) (5 * K + 5) (nI (vs 4))) 0 (nI (K + 1)) else if q = 8 then upd rd 50 (nI (vs 0)) else upd (upd (upd (upd rd (3 * N + 33) (nI (vs 0))) (3 * N + 34) (nI (vs 1))) (3 * N + 32) (nI (q - 5))) 31 (nI (N + 1))
theorem prd_le (tv : Nat → Nat) (l q : Nat) : ∀ (D f : Nat) (vs : Nat → Nat) (p : Nat) (vs' : Nat → Nat) (e : Nat), p ≤ l → prd tv l q D f vs p = .inr (vs', e) → p ≤ e ∧ e ≤ l := by
  intro D
  induction D with
  | zero => intro f vs p vs' e hp h; rw [prd] at h; cases h; exact ⟨Nat.le_refl _, hp⟩
  | succ D ih =>
    intro f vs p vs' e hp h
    rw [prd] at h
    have h1 := tSk_le tv hp
    have h2 := tEn_le tv h1.2
    by_cases q1 : tOk tv l (tSk tv l p) (pbd q vs f).1 (pbd q vs f).2
    · rw [if_pos q1] at h
      have := ih _ _ _ _ _ h2.2 h
      omega
    · rw [if_neg q1] at h; cases h
theorem prd_inl (tv : Nat → Nat) (l q : Nat) : ∀ (D f : Nat) (vs : Nat → Nat) (p s : Nat), p ≤ l → prd tv l q D f vs p = .inl s → s ≤ l := by
  intro D
  induction D with
  | zero => intro f vs p s hp h; rw [prd] at h; cases h
  | succ D ih =>
    intro f vs p s hp h
    rw [prd] at h
    have h1 := tSk_le tv hp
    have h2 := tEn_le tv h1.2
    by_cases q1 : tOk tv l (tSk tv l p) (pbd q vs f).1 (pbd q vs f).2
    · rw [if_pos q1] at h
      exact ih _ _ _ _ h2.2 h
    · rw [if_neg q1] at h; cases h; exact h1.2
theorem upd_ne' {f : Nat → Int32} {c z : Nat} {x : Int32} (h : z ≠ c) : upd f c x z = f z := if_neg h
theorem upd_eq' {f : Nat → Int32} {c : Nat} {x : Int32} : upd f c x c = x := if_pos rfl
section MV
variable {X : gX} {n k : Nat} {w : gH} {Q : Option Value → Nat → Nat → gH → Prop} {o : Nat} {nw rd ps im ik tx fa al be fo io : Nat → Int32} {de le pz tk ta va se it ln fz fb fm : Int32} {l p c : Nat} {tv : Nat → Nat}
theorem rn_1_99 (ht : gtx tx tv l) (hp : p ≤ l) (hc : c < 59) : gEv (gT X) 126 0 [.ref o, .int (nI c), .int 1, .int 99, .null] [] n k (mW w o nw rd ps de im ik tx (nI l) (nI p) tk ta va fa se it al ln fz fb be fo fm io) Q ↔ (if tOk tv l (tSk tv l p) 1 99 then Q (some (.int 1)) n k (mW w o nw (upd rd c (nI (tN tv l (tSk tv l p)))) ps de im ik tx (nI l) (nI (tEn tv l (tSk tv l p))) (tTok (tK tv l (tSk tv l p))) (nI (tSk tv l p)) (tVa va tv l (tSk tv l p)) fa se it al ln fz fb be fo fm io) else Q (some (.int 0)) n k (mW w o nw rd ps de im ik tx (nI l) (nI (tEn tv l (tSk tv l p))) (tTok (tK tv l (tSk tv l p))) (nI (tSk tv l p)) (tVa va tv l (tSk tv l p)) fa se it al ln fz fb be fo fm io)) := c6_readNumber (lo := 1) (hi := 99) ht hp hc (by omega) (by omega)
theorem rn_0_2 (ht : gtx tx tv l) (hp : p ≤ l) (hc : c < 59) : gEv (gT X) 126 0 [.ref o, .int (nI c), .int 0, .int 2, .null] [] n k (mW w o nw rd ps de im ik tx (nI l) (nI p) tk ta va fa se it al ln fz fb be fo fm io) Q ↔ (if tOk tv l (tSk tv l p) 0 2 then Q (some (.int 1)) n k (mW w o nw (upd rd c (nI (tN tv l (tSk tv l p)))) ps de im ik tx (nI l) (nI (tEn tv l (tSk tv l p))) (tTok (tK tv l (tSk tv l p))) (nI (tSk tv l p)) (tVa va tv l (tSk tv l p)) fa se it al ln fz fb be fo fm io) else Q (some (.int 0)) n k (mW w o nw rd ps de im ik tx (nI l) (nI (tEn tv l (tSk tv l p))) (tTok (tK tv l (tSk tv l p))) (nI (tSk tv l p)) (tVa va tv l (tSk tv l p)) fa se it al ln fz fb be fo fm io)) := c6_readNumber (lo := 0) (hi := 2) ht hp hc (by omega) (by omega)
theorem rn_0_x (ht : gtx tx tv l) (hp : p ≤ l) (hc : c < 59) {hi : Nat} (hh : hi < 256) : gEv (gT X) 126 0 [.ref o, .int (nI c), .int 0, .int (nI hi), .null] [] n k (mW w o nw rd ps de im ik tx (nI l) (nI p) tk ta va fa se it al ln fz fb be fo fm io) Q ↔ (if tOk tv l (tSk tv l p) 0 hi then Q (some (.int 1)) n k (mW w o nw (upd rd c (nI (tN tv l (tSk tv l p)))) ps de im ik tx (nI l) (nI (tEn tv l (tSk tv l p))) (tTok (tK tv l (tSk tv l p))) (nI (tSk tv l p)) (tVa va tv l (tSk tv l p)) fa se it al ln fz fb be fo fm io) else Q (some (.int 0)) n k (mW w o nw rd ps de im ik tx (nI l) (nI (tEn tv l (tSk tv l p))) (tTok (tK tv l (tSk tv l p))) (nI (tSk tv l p)) (tVa va tv l (tSk tv l p)) fa se it al ln fz fb be fo fm io)) := c6_readNumber (lo := 0) (hi := hi) ht hp hc (by omega) hh
theorem rn_1_9 (ht : gtx tx tv l) (hp : p ≤ l) (hc : c < 59) : gEv (gT X) 126 0 [.ref o, .int (nI c), .int 1, .int 9, .null] [] n k (mW w o nw rd ps de im ik tx (nI l) (nI p) tk ta va fa se it al ln fz fb be fo fm io) Q ↔ (if tOk tv l (tSk tv l p) 1 9 then Q (some (.int 1)) n k (mW w o nw (upd rd c (nI (tN tv l (tSk tv l p)))) ps de im ik tx (nI l) (nI (tEn tv l (tSk tv l p))) (tTok (tK tv l (tSk tv l p))) (nI (tSk tv l p)) (tVa va tv l (tSk tv l p)) fa se it al ln fz fb be fo fm io) else Q (some (.int 0)) n k (mW w o nw rd ps de im ik tx (nI l) (nI (tEn tv l (tSk tv l p))) (tTok (tK tv l (tSk tv l p))) (nI (tSk tv l p)) (tVa va tv l (tSk tv l p)) fa se it al ln fz fb be fo fm io)) := c6_readNumber (lo := 1) (hi := 9) ht hp hc (by omega) (by omega)
theorem c6_readCoin (ht : gtx tx tv l) (hp : p ≤ l) {K N s : Nat} (hK : K ≤ 6) (h0 : rd 0 = nI K) (hb : ∀ f, pit tv l K N 4 s p = .inl f → ∀ rd pz tk va, Q (some (.int 0)) n k (mW w o nw rd ps de im ik tx (nI l) pz tk (nI f) va fa se it al ln fz fb be fo fm io)) (ho : ∀ vs e, pit tv l K N 4 s p = .inr (vs, e) → ∀ tk ta va, Q (some (.int 1)) n k (mW w o nw (mput rd 4 K N vs) ps de im ik tx (nI l) (nI e) tk ta va fa se it al ln fz fb be fo fm io)) : gEv (gT X) 127 0 [.ref o, .null, .null] [] n k (mW w o nw rd ps de im ik tx (nI l) (nI p) tk (nI s) va fa se it al ln fz fb be fo fm io) Q := by
  have v0 : vp_in 0 59 := vp_in_nI (n := 0) (by omega) (by omega)
  have y0 : (0 : Int32).toNatClampNeg = 0 := by decide
  have h10 : ¬ (1 : Int32) = 0 := by decide
  unfold pit at hb ho
  by_cases q0 : K = 6
  · have hc : nI K = 6 := by rw [q0]; rfl
    rw [if_pos (Or.inr (Or.inl ⟨rfl, q0⟩))] at hb
    simp only [eX6_readCoin_0, eX6_readCoin_1, eX6_readCoin_2, eX6_readCoin_3, eX6_readCoin_6, eX6_readCoin_7, eX6_readCoin_8, eX6_readCoin_9, eX6_readCoin_10, eX6_readCoin_10b, eX6_readCoin_10c, eX6_readCoin_10d, eX6_readCoin_11, eX6_readCoin_12, eX6_readCoin_15, eX6_readCoin_16, eX6_readCoin_17, eX6_readCoin_19, eX6_readCoin_58, eX6_readCoin_59, Option.toList_some, Option.toList_none, List.cons_append, List.nil_append, gcat_nil, gcat_cons, cat_int, cat_ref, cat_null, cat_ret, cat_long, grc_ref, narZ0, narZ1, true_and, and_true, decide_true, Nat.reduceAdd, Nat.reduceLeDiff, if_true, if_false, eq_self, gfld_in, gobj_in, garr_in, garq_in, glen_in, gisO_in, ex_some, List.getElem?_cons_succ, List.getElem?_cons_zero, List.length_cons, List.length_nil, List.set_cons_succ, List.set_cons_zero, Nat.reduceLT, va_up_eq, va_up_nl, mW_0, mW_2, v0, y0, h0, hc]
    exact hb s rfl _ _ _ _
  · have hc : ¬ nI K = 6 := fun z => q0 ((nI_eq (b := 6) (by omega) (by omega)).mp z)
    have hno : ¬ pno K N 4 := by
      intro z
      rcases z with z | z | z
      · omega
      · exact q0 z.2
      · omega
    rw [if_neg hno] at hb ho
    have s0 := tSk_le tv hp
    have p1 := tEn_le tv s0.2
    generalize es0 : tSk tv l p = s0' at *
    have s1 := tSk_le tv p1.2
    have p2 := tEn_le tv s1.2
    have s2 := tSk_le tv p2.2
    have p3 := tEn_le tv s2.2
    have s3 := tSk_le tv p3.2
    have p4 := tEn_le tv s3.2
    have s4 := tSk_le tv p4.2
    have p5 := tEn_le tv s4.2
    have r0 : prd tv l 4 (pln 4) 0 (fun _ => 0) p = if tOk tv l s0' 1 99 then prd tv l 4 4 1 (upn (fun _ => 0) 0 (tN tv l s0')) (tEn tv l s0') else .inl s0' := by rw [← es0]; rfl
    rw [r0] at hb ho
    simp only [eX6_readCoin_0, eX6_readCoin_1, eX6_readCoin_2, eX6_readCoin_3, eX6_readCoin_6, eX6_readCoin_7, eX6_readCoin_8, eX6_readCoin_9, eX6_readCoin_10, eX6_readCoin_10b, eX6_readCoin_10c, eX6_readCoin_10d, eX6_readCoin_11, eX6_readCoin_12, eX6_readCoin_15, eX6_readCoin_16, eX6_readCoin_17, eX6_readCoin_19, eX6_readCoin_22, eX6_readCoin_23, eX6_readCoin_24, eX6_readCoin_25, eX6_readCoin_27, Option.toList_some, Option.toList_none, List.cons_append, List.nil_append, gcat_nil, gcat_cons, cat_int, cat_ref, cat_null, cat_ret, cat_long, grc_ref, narZ0, narZ1, true_and, and_true, decide_true, Nat.reduceAdd, Nat.reduceLeDiff, if_true, if_false, eq_self, gfld_in, gobj_in, garr_in, garq_in, glen_in, gisO_in, ex_some, List.getElem?_cons_succ, List.getElem?_cons_zero, List.length_cons, List.length_nil, List.set_cons_succ, List.set_cons_zero, Nat.reduceLT, va_up_eq, va_up_nl, mW_0, mW_2, v0, y0, h0, hc, m5, rn_1_99 ht hp (show 5 * K + 1 < 59 by omega), es0]
    by_cases q1 : tOk tv l s0' 1 99
    · rw [if_pos q1] at hb ho ⊢
      generalize es1 : tSk tv l (tEn tv l s0') = s1' at *
      have r1 : prd tv l 4 4 1 (upn (fun _ => 0) 0 (tN tv l s0')) (tEn tv l s0') = if tOk tv l s1' 1 99 then prd tv l 4 3 2 (upn (upn (fun _ => 0) 0 (tN tv l s0')) 1 (tN tv l s1')) (tEn tv l s1') else .inl s1' := by rw [← es1]; rfl
      rw [r1] at hb ho
      simp only [eX6_readCoin_30, eX6_readCoin_33, eX6_readCoin_34, eX6_readCoin_35, eX6_readCoin_36, eX6_readCoin_37, eX6_readCoin_38, eX6_readCoin_40, Option.toList_some, Option.toList_none, List.cons_append, List.nil_append, gcat_nil, gcat_cons, cat_int, cat_ref, cat_null, cat_ret, cat_long, grc_ref, narZ0, narZ1, true_and, and_true, decide_true, Nat.reduceAdd, Nat.reduceLeDiff, if_true, if_false, eq_self, gfld_in, gobj_in, garr_in, garq_in, glen_in, gisO_in, ex_some, List.getElem?_cons_succ, List.getElem?_cons_zero, List.length_cons, List.length_nil, List.set_cons_succ, List.set_cons_zero, Nat.reduceLT, va_up_eq, va_up_nl, mW_0, h10, nI_1, rn_1_99 ht p1.2 (show 5 * K + 1 + 1 < 59 by omega), es1]
      by_cases q2 : tOk tv l s1' 1 99
      · rw [if_pos q2] at hb ho ⊢
        generalize es2 : tSk tv l (tEn tv l s1') = s2' at *
        have r2 : prd tv l 4 3 2 (upn (upn (fun _ => 0) 0 (tN tv l s0')) 1 (tN tv l s1')) (tEn tv l s1') = if tOk tv l s2' 0 2 then prd tv l 4 2 3 (upn (upn (upn (fun _ => 0) 0 (tN tv l s0')) 1 (tN tv l s1')) 2 (tN tv l s2')) (tEn tv l s2') else .inl s2' := by rw [← es2]; rfl
        rw [r2] at hb ho
        simp only [eX6_readCoin_43, eX6_readCoin_46, eX6_readCoin_47, eX6_readCoin_48, eX6_readCoin_49, eX6_readCoin_50, eX6_readCoin_51, eX6_readCoin_52, Option.toList_some, Option.toList_none, List.cons_append, List.nil_append, gcat_nil, gcat_cons, cat_int, cat_ref, cat_null, cat_ret, cat_long, grc_ref, narZ0, narZ1, true_and, and_true, decide_true, Nat.reduceAdd, Nat.reduceLeDiff, if_true, if_false, eq_self, gfld_in, gobj_in, garr_in, garq_in, glen_in, gisO_in, ex_some, List.getElem?_cons_succ, List.getElem?_cons_zero, List.length_cons, List.length_nil, List.set_cons_succ, List.set_cons_zero, Nat.reduceLT, va_up_eq, va_up_nl, mW_0, h10, nIp2, rn_0_2 ht p2.2 (show 5 * K + 1 + 2 < 59 by omega), es2]
        by_cases q3 : tOk tv l s2' 0 2
        · rw [if_pos q3] at hb ho ⊢
          generalize es3 : tSk tv l (tEn tv l s2') = s3' at *
          have hm : (if tN tv l s1' ≤ 9 then tN tv l s1' - 1 else 9) < 256 := by split <;> omega
          have r3 : prd tv l 4 2 3 (upn (upn (upn (fun _ => 0) 0 (tN tv l s0')) 1 (tN tv l s1')) 2 (tN tv l s2')) (tEn tv l s2') = if tOk tv l s3' 0 (if tN tv l s1' ≤ 9 then tN tv l s1' - 1 else 9) then prd tv l 4 1 4 (upn (upn (upn (upn (fun _ => 0) 0 (tN tv l s0')) 1 (tN tv l s1')) 2 (tN tv l s2')) 3 (tN tv l s3')) (tEn tv l s3') else .inl s3' := by rw [← es3]; rfl
          rw [r3] at hb ho
          have vr : vp_in (nI (5 * K + 1 + 1)) 59 := vp_in_nI (by omega) (by omega)
          have e5 : upd (upd (upd rd (5 * K + 1) (nI (tN tv l s0'))) (5 * K + 1 + 1) (nI (tN tv l s1'))) (5 * K + 1 + 2) (nI (tN tv l s2')) (5 * K + 1 + 1) = nI (tN tv l s1') := by rw [upd_ne' (by omega), upd_eq']
          have h9 : (nI (tN tv l s1') ≤ 9) ↔ tN tv l s1' ≤ 9 := by
            have := tN_lt tv l s1'
            constructor
            · intro z
              by_cases q : tN tv l s1' ≤ 9
              · exact q
              · exact absurd z (nI_ge (a := 9) (by omega) (by omega))
            · intro z; exact nI_le (b := 9) z (by omega)
          have e1 : 1 ≤ tN tv l s1' := q2.2.1
          have em : nI (tN tv l s1') - 1 = nI (tN tv l s1' - 1) := by
            rw [show tN tv l s1' = tN tv l s1' - 1 + 1 by omega, nI_pred]; rfl
          have tail : ∀ (m : Nat), m = (if tN tv l s1' ≤ 9 then tN tv l s1' - 1 else 9) → gEv (gT X) 127 88 [.ref o, .int (nI (5 * K + 1)), .null] [.int (nI m)] n k (mW w o nw (upd (upd (upd rd (5 * K + 1) (nI (tN tv l s0'))) (5 * K + 1 + 1) (nI (tN tv l s1'))) (5 * K + 1 + 2) (nI (tN tv l s2'))) ps de im ik tx (nI l) (nI (tEn tv l s2')) (tTok (tK tv l s2')) (nI s2') (tVa (tVa (tVa va tv l s0') tv l s1') tv l s2') fa se it al ln fz fb be fo fm io) Q := by
            intro m hm2
            rw [← hm2] at hb ho hm
            simp only [eX6_readCoin_88, eX6_readCoin_88b, eX6_readCoin_88c, eX6_readCoin_88d, eX6_readCoin_89, eX6_readCoin_90, eX6_readCoin_91, eX6_readCoin_92, eX6_readCoin_93, eX6_readCoin_94, eX6_readCoin_95, Option.toList_some, Option.toList_none, List.cons_append, List.nil_append, gcat_nil, gcat_cons, cat_int, cat_ref, cat_null, cat_ret, cat_long, grc_ref, narZ0, narZ1, true_and, and_true, decide_true, Nat.reduceAdd, Nat.reduceLeDiff, if_true, if_false, eq_self, gfld_in, gobj_in, garr_in, garq_in, glen_in, gisO_in, ex_some, List.getElem?_cons_succ, List.getElem?_cons_zero, List.length_cons, List.length_nil, List.set_cons_succ, List.set_cons_zero, Nat.reduceLT, va_up_eq, va_up_nl, mW_0, nIp3, rn_0_x ht p3.2 (show 5 * K + 1 + 3 < 59 by omega) hm, es3]
            by_cases q4 : tOk tv l s3' 0 m
            · rw [if_pos q4] at hb ho ⊢
              generalize es4 : tSk tv l (tEn tv l s3') = s4' at *
              have r4 : prd tv l 4 1 4 (upn (upn (upn (upn (fun _ => 0) 0 (tN tv l s0')) 1 (tN tv l s1')) 2 (tN tv l s2')) 3 (tN tv l s3')) (tEn tv l s3') = if tOk tv l s4' 0 99 then .inr (upn (upn (upn (upn (upn (fun _ => 0) 0 (tN tv l s0')) 1 (tN tv l s1')) 2 (tN tv l s2')) 3 (tN tv l s3')) 4 (tN tv l s4'), tEn tv l s4') else .inl s4' := by rw [← es4]; rfl
              rw [r4] at hb ho
              have f99 : ∀ {rd : Nat → Int32} {tk ta va : Int32} {Q : Option Value → Nat → Nat → gH → Prop}, gEv (gT X) 126 0 [.ref o, .int (nI (5 * K + 1 + 4)), .int 0, .int 99, .null] [] n k (mW w o nw rd ps de im ik tx (nI l) (nI (tEn tv l s3')) tk ta va fa se it al ln fz fb be fo fm io) Q ↔ (if tOk tv l (tSk tv l (tEn tv l s3')) 0 99 then Q (some (.int 1)) n k (mW w o nw (upd rd (5 * K + 1 + 4) (nI (tN tv l (tSk tv l (tEn tv l s3'))))) ps de im ik tx (nI l) (nI (tEn tv l (tSk tv l (tEn tv l s3')))) (tTok (tK tv l (tSk tv l (tEn tv l s3')))) (nI (tSk tv l (tEn tv l s3'))) (tVa va tv l (tSk tv l (tEn tv l s3'))) fa se it al ln fz fb be fo fm io) else Q (some (.int 0)) n k (mW w o nw rd ps de im ik tx (nI l) (nI (tEn tv l (tSk tv l (tEn tv l s3')))) (tTok (tK tv l (tSk tv l (tEn tv l s3')))) (nI (tSk tv l (tEn tv l s3'))) (tVa va tv l (tSk tv l (tEn tv l s3'))) fa se it al ln fz fb be fo fm io)) := rn_0_x (hi := 99) ht p4.2 (show 5 * K + 1 + 4 < 59 by omega) (by omega)
              simp only [eX6_readCoin_98, eX6_readCoin_101, eX6_readCoin_102, eX6_readCoin_103, eX6_readCoin_104, eX6_readCoin_105, eX6_readCoin_106, eX6_readCoin_108, Option.toList_some, Option.toList_none, List.cons_append, List.nil_append, gcat_nil, gcat_cons, cat_int, cat_ref, cat_null, cat_ret, cat_long, grc_ref, narZ0, narZ1, true_and, and_true, decide_true, Nat.reduceAdd, Nat.reduceLeDiff, if_true, if_false, eq_self, gfld_in, gobj_in, garr_in, garq_in, glen_in, gisO_in, ex_some, List.getElem?_cons_succ, List.getElem?_cons_zero, List.length_cons, List.length_nil, List.set_cons_succ, List.set_cons_zero, Nat.reduceLT, va_up_eq, va_up_nl, mW_0, h10, nIp4, f99, es4]
              by_cases q5 : tOk tv l s4' 0 99
              · rw [if_pos q5] at hb ho ⊢
                have e0 : upd (upd (upd (upd (upd rd (5 * K + 1) (nI (tN tv l s0'))) (5 * K + 1 + 1) (nI (tN tv l s1'))) (5 * K + 1 + 2) (nI (tN tv l s2'))) (5 * K + 1 + 3) (nI (tN tv l s3'))) (5 * K + 1 + 4) (nI (tN tv l s4')) 0 = nI K := by rw [upd_ne' (by omega), upd_ne' (by omega), upd_ne' (by omega), upd_ne' (by omega), upd_ne' (by omega), h0]
                simp only [eX6_readCoin_111, eX6_readCoin_116, eX6_readCoin_117, eX6_readCoin_120, eX6_readCoin_121, eX6_readCoin_122, eX6_readCoin_123, eX6_readCoin_124, eX6_readCoin_125, eX6_readCoin_126, eX6_readCoin_127, Option.toList_some, Option.toList_none, List.cons_append, List.nil_append, gcat_nil, gcat_cons, cat_int, cat_ref, cat_null, cat_ret, cat_long, grc_ref, narZ0, narZ1, true_and, and_true, decide_true, Nat.reduceAdd, Nat.reduceLeDiff, if_true, if_false, eq_self, gfld_in, gobj_in, garr_in, garq_in, glen_in, gisO_in, ex_some, List.getElem?_cons_succ, List.getElem?_cons_zero, List.length_cons, List.length_nil, List.set_cons_succ, List.set_cons_zero, Nat.reduceLT, va_up_eq, va_up_nl, mW_0, mW_2, h10, not_false_eq_true, v0, y0, e0, mW_p2, nI_1]
                exact ho _ _ rfl _ _ _
              · rw [if_neg q5] at hb ho ⊢
                simp only [eX6_readCoin_111, eX6_readCoin_114, eX6_readCoin_115, Option.toList_some, Option.toList_none, List.cons_append, List.nil_append, gcat_nil, gcat_cons, cat_int, cat_ref, cat_null, cat_ret, cat_long, grc_ref, narZ0, narZ1, true_and, and_true, decide_true, Nat.reduceAdd, Nat.reduceLeDiff, if_true, if_false, eq_self, gfld_in, gobj_in, garr_in, garq_in, glen_in, gisO_in, ex_some, List.getElem?_cons_succ, List.getElem?_cons_zero, List.length_cons, List.length_nil, List.set_cons_succ, List.set_cons_zero, Nat.reduceLT, va_up_eq, va_up_nl, not_true_eq_false]
                exact hb _ rfl _ _ _ _
            · rw [if_neg q4] at hb ho ⊢
              simp only [eX6_readCoin_98, eX6_readCoin_114, eX6_readCoin_115, Option.toList_some, Option.toList_none, List.cons_append, List.nil_append, gcat_nil, gcat_cons, cat_int, cat_ref, cat_null, cat_ret, cat_long, grc_ref, narZ0, narZ1, true_and, and_true, decide_true, Nat.reduceAdd, Nat.reduceLeDiff, if_true, if_false, eq_self, gfld_in, gobj_in, garr_in, garq_in, glen_in, gisO_in, ex_some, List.getElem?_cons_succ, List.getElem?_cons_zero, List.length_cons, List.length_nil, List.set_cons_succ, List.set_cons_zero, Nat.reduceLT, va_up_eq, va_up_nl]
              exact hb _ rfl _ _ _ _
          simp only [eX6_readCoin_55, eX6_readCoin_60, eX6_readCoin_61, eX6_readCoin_64, eX6_readCoin_65, eX6_readCoin_66, eX6_readCoin_67, eX6_readCoin_68, eX6_readCoin_70, Option.toList_some, Option.toList_none, List.cons_append, List.nil_append, gcat_nil, gcat_cons, cat_int, cat_ref, cat_null, cat_ret, cat_long, grc_ref, narZ0, narZ1, true_and, and_true, decide_true, Nat.reduceAdd, Nat.reduceLeDiff, if_true, if_false, eq_self, gfld_in, gobj_in, garr_in, garq_in, glen_in, gisO_in, ex_some, List.getElem?_cons_succ, List.getElem?_cons_zero, List.length_cons, List.length_nil, List.set_cons_succ, List.set_cons_zero, Nat.reduceLT, va_up_eq, va_up_nl, mW_0, mW_2, h10, not_false_eq_true, nI_1, vr, nI_clamp (show 5 * K + 1 + 1 < 2 ^ 31 by omega), e5, h9]
          by_cases q9 : tN tv l s1' ≤ 9
          · rw [if_pos q9]
            simp only [eX6_readCoin_78, eX6_readCoin_79, eX6_readCoin_82, eX6_readCoin_83, eX6_readCoin_84, eX6_readCoin_85, eX6_readCoin_86, eX6_readCoin_87, Option.toList_some, Option.toList_none, List.cons_append, List.nil_append, gcat_nil, gcat_cons, cat_int, cat_ref, cat_null, cat_ret, cat_long, grc_ref, narZ0, narZ1, true_and, and_true, decide_true, Nat.reduceAdd, Nat.reduceLeDiff, if_true, if_false, eq_self, gfld_in, gobj_in, garr_in, garq_in, glen_in, gisO_in, ex_some, List.getElem?_cons_succ, List.getElem?_cons_zero, List.length_cons, List.length_nil, List.set_cons_succ, List.set_cons_zero, Nat.reduceLT, va_up_eq, va_up_nl, mW_0, mW_2, nI_1, vr, nI_clamp (show 5 * K + 1 + 1 < 2 ^ 31 by omega), e5, em]
            exact tail _ (by rw [if_pos q9])
          · rw [if_neg q9]
            simp only [eX6_readCoin_73, eX6_readCoin_75, Option.toList_some, Option.toList_none, List.cons_append, List.nil_append, gcat_nil, gcat_cons, cat_int, cat_ref, cat_null, cat_ret, cat_long, grc_ref, narZ0, narZ1, true_and, and_true, decide_true, Nat.reduceAdd, Nat.reduceLeDiff, if_true, if_false, eq_self, gfld_in, gobj_in, garr_in, garq_in, glen_in, gisO_in, ex_some, List.getElem?_cons_succ, List.getElem?_cons_zero, List.length_cons, List.length_nil, List.set_cons_succ, List.set_cons_zero, Nat.reduceLT, va_up_eq, va_up_nl]
            exact tail 9 (by rw [if_neg q9])
        · rw [if_neg q3] at hb ho ⊢
          simp only [eX6_readCoin_55, eX6_readCoin_58, eX6_readCoin_59, Option.toList_some, Option.toList_none, List.cons_append, List.nil_append, gcat_nil, gcat_cons, cat_int, cat_ref, cat_null, cat_ret, cat_long, grc_ref, narZ0, narZ1, true_and, and_true, decide_true, Nat.reduceAdd, Nat.reduceLeDiff, if_true, if_false, eq_self, gfld_in, gobj_in, garr_in, garq_in, glen_in, gisO_in, ex_some, List.getElem?_cons_succ, List.getElem?_cons_zero, List.length_cons, List.length_nil, List.set_cons_succ, List.set_cons_zero, Nat.reduceLT, va_up_eq, va_up_nl, not_true_eq_false]
          exact hb _ rfl _ _ _ _
      · rw [if_neg q2] at hb ho ⊢
        simp only [eX6_readCoin_43, eX6_readCoin_58, eX6_readCoin_59, Option.toList_some, Option.toList_none, List.cons_append, List.nil_append, gcat_nil, gcat_cons, cat_int, cat_ref, cat_null, cat_ret, cat_long, grc_ref, narZ0, narZ1, true_and, and_true, decide_true, Nat.reduceAdd, Nat.reduceLeDiff, if_true, if_false, eq_self, gfld_in, gobj_in, garr_in, garq_in, glen_in, gisO_in, ex_some, List.getElem?_cons_succ, List.getElem?_cons_zero, List.length_cons, List.length_nil, List.set_cons_succ, List.set_cons_zero, Nat.reduceLT, va_up_eq, va_up_nl]
        exact hb _ rfl _ _ _ _
    · rw [if_neg q1] at hb ho ⊢
      simp only [eX6_readCoin_30, eX6_readCoin_58, eX6_readCoin_59, Option.toList_some, Option.toList_none, List.cons_append, List.nil_append, gcat_nil, gcat_cons, cat_int, cat_ref, cat_null, cat_ret, cat_long, grc_ref, narZ0, narZ1, true_and, and_true, decide_true, Nat.reduceAdd, Nat.reduceLeDiff, if_true, if_false, eq_self, gfld_in, gobj_in, garr_in, garq_in, glen_in, gisO_in, ex_some, List.getElem?_cons_succ, List.getElem?_cons_zero, List.length_cons, List.length_nil, List.set_cons_succ, List.set_cons_zero, Nat.reduceLT, va_up_eq, va_up_nl]
      exact hb _ rfl _ _ _ _
end MV
