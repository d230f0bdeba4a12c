/-! THE MODEL: the best order -/
/-- all orders of a list, as numbers go up -/
def gpm : Nat → List Nat → List (List Nat)
  | 0, _ => [[]]
  | f + 1, l => l.flatMap (fun x => (gpm f (l.erase x)).map (fun r => x :: r))
def nxb (l m : List Nat) : Bool := match nfi (fun p => l.getD p 0) (l.length - 1) with
  | none => false
  | some i => m.length == l.length && (List.range l.length).all (fun p => nord (fun p => l.getD p 0) l.length i p == m.getD p 0 && decide (m.getD p 0 < 6))
def nxc : List (List Nat) → Bool
  | [] => false
  | [l] => (nfi (fun p => l.getD p 0) (l.length - 1)).isNone
  | l :: m :: r => nxb l m && nxc (m :: r)
def nxo (N : Nat) : Bool := nxc (gpm N (List.range N)) && (gpm N (List.range N)).head? == some (List.range N) && (gpm N (List.range N)).all (fun l => l.length == N)
theorem nxo_ok : ∀ N, N ≤ 6 → nxo N = true := by
  intro N hN
  have : N = 0 ∨ N = 1 ∨ N = 2 ∨ N = 3 ∨ N = 4 ∨ N = 5 ∨ N = 6 := by omega
  rcases this with rfl | rfl | rfl | rfl | rfl | rfl | rfl <;> decide +kernel
def mfo (nw : Nat → Int32) (fz fb : Int32) (We : Nat → Nat) (K : Nat) : List (List Nat) → Int32 → List Nat → Int32 × List Nat
  | [], le, b => (le, b)
  | l :: r, le, b => if ¬ mfl nw fz fb We K l = 0 ∧ (le = -9 ∨ mpl nw fz fb We K l < le) then mfo nw fz fb We K r (mpl nw fz fb We K l) l else mfo nw fz fb We K r le b
theorem mfo_len {nw : Nat → Int32} {fz fb : Int32} {We : Nat → Nat} {K L : Nat} : ∀ (ps : List (List Nat)) (le : Int32) (b : List Nat), (∀ l, l ∈ ps → l.length = L) → (le = -9 ∨ b.length = L) → ((mfo nw fz fb We K ps le b).1 = -9 ∨ (mfo nw fz fb We K ps le b).2.length = L) := by
  intro ps
  induction ps with
  | nil => intro le b _ h; exact h
  | cons l r ih =>
    intro le b hl h
    rw [mfo]
    by_cases q : ¬ mfl nw fz fb We K l = 0 ∧ (le = -9 ∨ mpl nw fz fb We K l < le)
    · rw [if_pos q]
      exact ih _ _ (fun l h => hl l (List.mem_cons_of_mem _ h)) (Or.inr (hl l List.mem_cons_self))
    · rw [if_neg q]
      exact ih _ _ (fun l h => hl l (List.mem_cons_of_mem _ h)) h
section MF
variable {X : gX} {n k : Nat} {w : gH} {Q : Option Value → Nat → Nat → gH → Prop} {o : Nat} {nw rd ps im ik tx fa al be fo io : Nat → Int32} {de le pz tk ta va se it ln fz fb fm : Int32} {K N d L : Nat} {We : Nat → Nat} {a : Nat → Nat}
theorem c6_findOrder (hN : N ≤ 6) (h31 : nw 31 = nI N) (hK : K ≤ 6) (h0 : nw 0 = nI K) (hW : ∀ c, c < K → nw (5 * c + 4) = nI (We c) ∧ We c < 1000) (hQ : ∀ al be, gag be (mfo nw (-9) 0 We K (gpm N (List.range N)) (-9) []).2 → Q (some (.int (mfo nw (-9) 0 We K (gpm N (List.range N)) (-9) []).1)) n k (mW w o nw rd ps de im ik tx le pz tk ta va fa se it al (nI N) (-9) 0 be fo fm io)) : gEv (gT X) 170 0 [.ref o, .null, .null, .null, .null] [] n k (mW w o nw rd ps de im ik tx le pz tk ta va fa se it al ln fz fb be fo fm io) Q := by
  have loop : ∀ (oz : List (List Nat)) (l : List Nat) (lz : Int32) (b : List Nat) (al be : Nat → Int32) (v3 v4 : Value), nxc (l :: oz) = true → l.length = N → gag al l → gag be b → (∀ al be, gag be (mfo nw (-9) 0 We K (l :: oz) lz b).2 → Q (some (.int (mfo nw (-9) 0 We K (l :: oz) lz b).1)) n k (mW w o nw rd ps de im ik tx le pz tk ta va fa se it al (nI N) (-9) 0 be fo fm io)) → gEv (gT X) 170 9 [.ref o, .int lz, .int 1, v3, v4] [] n k (mW w o nw rd ps de im ik tx le pz tk ta va fa se it al (nI N) (-9) 0 be fo fm io) Q := by
    intro oz
    induction oz with
    | nil =>
      intro l lz b al be v3 v4 hx hl ha hb hq
      subst hl
      have h10 : ¬ (1 : Int32) = 0 := by decide
      have hn : nfi (fun p => l.getD p 0) (l.length - 1) = none := by
        rw [nxc] at hx
        exact Option.isNone_iff_eq_none.mp hx
      have tail : ∀ (lz : Int32) (b : List Nat) (be : Nat → Int32) (v3 v4 : Value), gag be b → (∀ al be, gag be b → Q (some (.int lz)) n k (mW w o nw rd ps de im ik tx le pz tk ta va fa se it al (nI l.length) (-9) 0 be fo fm io)) → gEv (gT X) 170 73 [.ref o, .int lz, .int 1, v3, v4] [] n k (mW w o nw rd ps de im ik tx le pz tk ta va fa se it al (nI l.length) (-9) 0 be fo fm io) Q := by
        intro lz b be v3 v4 hb hq
        simp only [eX6_findOrder_73, eX6_findOrder_74, Option.toList_some, Option.toList_none, List.cons_append, List.nil_append, gcat_nil, gcat_cons, cat_int, cat_ref, cat_null, cat_ret, cat_long, grc_ref, narZ0, narZ1, true_and, and_true, decide_true, Nat.reduceAdd, Nat.reduceLeDiff, if_true, if_false, eq_self, gfld_in, gobj_in, garr_in, garq_in, glen_in, gisO_in, ex_some, List.getElem?_cons_succ, List.getElem?_cons_zero, List.length_cons, List.length_nil, List.set_cons_succ, List.set_cons_zero, Nat.reduceLT, va_up_eq, va_up_nl, mW_0]
        refine c6_nextOrder hN ha ?_ ?_
        · intro _
          simp only [eX6_findOrder_77, eX6_findOrder_77b, eX6_findOrder_77c, eX6_findOrder_77d, eX6_findOrder_78, Option.toList_some, Option.toList_none, List.cons_append, List.nil_append, gcat_nil, gcat_cons, cat_int, cat_ref, cat_null, cat_ret, cat_long, grc_ref, narZ0, narZ1, true_and, and_true, decide_true, Nat.reduceAdd, Nat.reduceLeDiff, if_true, if_false, eq_self, gfld_in, gobj_in, garr_in, garq_in, glen_in, gisO_in, ex_some, List.getElem?_cons_succ, List.getElem?_cons_zero, List.length_cons, List.length_nil, List.set_cons_succ, List.set_cons_zero, Nat.reduceLT, va_up_eq, va_up_nl]
          rw [eX6_findOrder_9]
          simp only [eX6_findOrder_10, eX6_findOrder_81, eX6_findOrder_82, Option.toList_some, Option.toList_none, List.cons_append, List.nil_append, gcat_nil, gcat_cons, cat_int, cat_ref, cat_null, cat_ret, cat_long, grc_ref, narZ0, narZ1, true_and, and_true, decide_true, Nat.reduceAdd, Nat.reduceLeDiff, if_true, if_false, eq_self, gfld_in, gobj_in, garr_in, garq_in, glen_in, gisO_in, ex_some, List.getElem?_cons_succ, List.getElem?_cons_zero, List.length_cons, List.length_nil, List.set_cons_succ, List.set_cons_zero, Nat.reduceLT, va_up_eq, va_up_nl]
          exact hq al be hb
        · intro i al h
          rw [hn] at h
          cases h
      have e1 : maa (fun c => mbs (fun x => mbc nw (-9) 0 (fun p => l.getD p 0) l.length c (nI x)) (We c)) 0 K 0 1 = mfl nw (-9) 0 We K l := rfl
      have e2 : mpr nw (fun c => mto (fun x => mtl nw (fun p => l.getD p 0) (nI (mbc nw (-9) 0 (fun p => l.getD p 0) l.length c (nI x))) 0 l.length 0) (We c)) K = mpl nw (-9) 0 We K l := rfl
      have cp : ∀ (x y z : Int32) (D j : Nat), j + D = l.length → (∀ v4, gEv (gT X) 170 73 [.ref o, .int x, .int y, .int z, v4] [] n k (mW w o nw rd ps de im ik tx le pz tk ta va fa se it al (nI l.length) (-9) 0 (mrng 0 l.length al be) fo fm io) Q) → gEv (gT X) 170 44 [.ref o, .int x, .int y, .int z, .int (nI j)] [] n k (mW w o nw rd ps de im ik tx le pz tk ta va fa se it al (nI l.length) (-9) 0 (mrng 0 j al be) fo fm io) Q := by
        intro x y z D
        induction D with
        | zero =>
          intro j hj hq
          have hc : nI l.length ≤ nI j := nI_le (by omega) (by omega)
          rw [eX6_findOrder_44]
          simp only [eX6_findOrder_46, eX6_findOrder_47, eX6_findOrder_50, Option.toList_some, Option.toList_none, List.cons_append, List.nil_append, gcat_nil, gcat_cons, cat_int, cat_ref, cat_null, cat_ret, cat_long, grc_ref, narZ0, narZ1, true_and, and_true, decide_true, Nat.reduceAdd, Nat.reduceLeDiff, if_true, if_false, eq_self, gfld_in, gobj_in, garr_in, garq_in, glen_in, gisO_in, ex_some, List.getElem?_cons_succ, List.getElem?_cons_zero, List.length_cons, List.length_nil, List.set_cons_succ, List.set_cons_zero, Nat.reduceLT, va_up_eq, va_up_nl, mW_0, hc]
          rw [show j = l.length by omega]
          exact hq _
        | succ D ih =>
          intro j hj hq
          have hc : ¬ nI l.length ≤ nI j := nI_ge (by omega) (by omega)
          have v1 : vp_in (nI j) 6 := vp_in_nI (by omega) (by omega)
          have e1 := mrng_up (lo := 0) (k := j) (f := al) (g := be) (x := al j) (by omega) rfl
          rw [eX6_findOrder_44]
          simp only [eX6_findOrder_46, eX6_findOrder_47, eX6_findOrder_50, eX6_findOrder_53, eX6_findOrder_54, eX6_findOrder_57, eX6_findOrder_59, eX6_findOrder_60, eX6_findOrder_63, eX6_findOrder_65, eX6_findOrder_66, eX6_findOrder_67, eX6_findOrder_67b, eX6_findOrder_67c, eX6_findOrder_67d, eX6_findOrder_70, Option.toList_some, Option.toList_none, List.cons_append, List.nil_append, gcat_nil, gcat_cons, cat_int, cat_ref, cat_null, cat_ret, cat_long, grc_ref, narZ0, narZ1, true_and, and_true, decide_true, Nat.reduceAdd, Nat.reduceLeDiff, if_true, if_false, eq_self, gfld_in, gobj_in, garr_in, garq_in, glen_in, gisO_in, ex_some, List.getElem?_cons_succ, List.getElem?_cons_zero, List.length_cons, List.length_nil, List.set_cons_succ, List.set_cons_zero, Nat.reduceLT, va_up_eq, va_up_nl, mW_0, mW_8, mW_9, hc, v1, nI_clamp (show j < 2 ^ 31 by omega), e1, mW_p9, nI_1]
          exact ih (j + 1) (by omega) hq
      have better : (¬ mfl nw (-9) 0 We K l = 0 ∧ (lz = -9 ∨ mpl nw (-9) 0 We K l < lz)) → ∀ v4, gEv (gT X) 170 39 [.ref o, .int lz, .int 1, .int (mpl nw (-9) 0 We K l), v4] [] n k (mW w o nw rd ps de im ik tx le pz tk ta va fa se it al (nI l.length) (-9) 0 be fo fm io) Q := by
        intro hb2 v4
        rw [mfo, if_pos hb2] at hq
        have := cp (mpl nw (-9) 0 We K l) 1 (mpl nw (-9) 0 We K l) l.length 0 (by omega) (fun v4 => tail _ l (mrng 0 l.length al be) _ v4 (by
          intro p hp
          rw [mrng_in (Nat.zero_le _) hp]
          exact ha p hp) hq)
        rw [mrng_nil] at this
        simp only [eX6_findOrder_39, eX6_findOrder_40, eX6_findOrder_40b, eX6_findOrder_40c, eX6_findOrder_40d, eX6_findOrder_41, eX6_findOrder_42, eX6_findOrder_42b, eX6_findOrder_42c, eX6_findOrder_42d, Option.toList_some, Option.toList_none, List.cons_append, List.nil_append, gcat_nil, gcat_cons, cat_int, cat_ref, cat_null, cat_ret, cat_long, grc_ref, narZ0, narZ1, true_and, and_true, decide_true, Nat.reduceAdd, Nat.reduceLeDiff, if_true, if_false, eq_self, gfld_in, gobj_in, garr_in, garq_in, glen_in, gisO_in, ex_some, List.getElem?_cons_succ, List.getElem?_cons_zero, List.length_cons, List.length_nil, List.set_cons_succ, List.set_cons_zero, Nat.reduceLT, va_up_eq, va_up_nl]
        exact this
      rw [eX6_findOrder_9]
      simp only [eX6_findOrder_10, eX6_findOrder_13, eX6_findOrder_14, eX6_findOrder_16, eX6_findOrder_17, eX6_findOrder_20, Option.toList_some, Option.toList_none, List.cons_append, List.nil_append, gcat_nil, gcat_cons, cat_int, cat_ref, cat_null, cat_ret, cat_long, grc_ref, narZ0, narZ1, true_and, and_true, decide_true, Nat.reduceAdd, Nat.reduceLeDiff, if_true, if_false, eq_self, gfld_in, gobj_in, garr_in, garq_in, glen_in, gisO_in, ex_some, List.getElem?_cons_succ, List.getElem?_cons_zero, List.length_cons, List.length_nil, List.set_cons_succ, List.set_cons_zero, Nat.reduceLT, va_up_eq, va_up_nl, mW_0, h10, c6_apart9 hN hK h0 (ap := fun p => l.getD p 0) ha hW, e1]
      by_cases q : mfl nw (-9) 0 We K l = 0
      · rw [if_pos q]
        rw [mfo, if_neg (fun z => z.1 q)] at hq
        exact tail lz b be v3 v4 hb hq
      · rw [if_neg q]
        simp only [eX6_findOrder_23, eX6_findOrder_24, eX6_findOrder_27, eX6_findOrder_27b, eX6_findOrder_27c, eX6_findOrder_27d, eX6_findOrder_28, eX6_findOrder_29, eX6_findOrder_31, Option.toList_some, Option.toList_none, List.cons_append, List.nil_append, gcat_nil, gcat_cons, cat_int, cat_ref, cat_null, cat_ret, cat_long, grc_ref, narZ0, narZ1, true_and, and_true, decide_true, Nat.reduceAdd, Nat.reduceLeDiff, if_true, if_false, eq_self, gfld_in, gobj_in, garr_in, garq_in, glen_in, gisO_in, ex_some, List.getElem?_cons_succ, List.getElem?_cons_zero, List.length_cons, List.length_nil, List.set_cons_succ, List.set_cons_zero, Nat.reduceLT, va_up_eq, va_up_nl, mW_0, c6_priceNow hN hK h0 (ap := fun p => l.getD p 0) ha hW, e2]
        by_cases q2 : lz = -9
        · rw [if_pos q2]
          exact better ⟨q, Or.inl q2⟩ v4
        · rw [if_neg q2]
          simp only [eX6_findOrder_34, eX6_findOrder_35, eX6_findOrder_36, Option.toList_some, Option.toList_none, List.cons_append, List.nil_append, gcat_nil, gcat_cons, cat_int, cat_ref, cat_null, cat_ret, cat_long, grc_ref, narZ0, narZ1, true_and, and_true, decide_true, Nat.reduceAdd, Nat.reduceLeDiff, if_true, if_false, eq_self, gfld_in, gobj_in, garr_in, garq_in, glen_in, gisO_in, ex_some, List.getElem?_cons_succ, List.getElem?_cons_zero, List.length_cons, List.length_nil, List.set_cons_succ, List.set_cons_zero, Nat.reduceLT, va_up_eq, va_up_nl]
          by_cases q3 : lz ≤ mpl nw (-9) 0 We K l
          · rw [if_pos q3]
            rw [mfo, if_neg (fun z => z.2.elim q2 (Int32.not_lt.mpr q3))] at hq
            exact tail lz b be _ v4 hb hq
          · rw [if_neg q3]
            exact better ⟨q, Or.inr (Int32.not_le.mp q3)⟩ v4
    | cons m oz ihp =>
      intro l lz b al be v3 v4 hx hl ha hb hq
      subst hl
      have h10 : ¬ (1 : Int32) = 0 := by decide
      rw [nxc] at hx
      simp only [Bool.and_eq_true] at hx
      obtain ⟨hx1, hx2⟩ := hx
      have hn : ∃ i, nfi (fun p => l.getD p 0) (l.length - 1) = some i ∧ m.length = l.length ∧ ∀ p, p < l.length → nord (fun p => l.getD p 0) l.length i p = m.getD p 0 ∧ m.getD p 0 < 6 := by
        unfold nxb at hx1
        cases hf : nfi (fun p => l.getD p 0) (l.length - 1) with
        | none => rw [hf] at hx1; cases hx1
        | some i =>
          rw [hf] at hx1
          simp only [Bool.and_eq_true, List.all_eq_true, beq_iff_eq, decide_eq_true_eq, List.mem_range] at hx1
          exact ⟨i, rfl, hx1.1, hx1.2⟩
      obtain ⟨i0, hn1, hn2, hn3⟩ := hn
      have tail : ∀ (lz : Int32) (b : List Nat) (be : Nat → Int32) (v3 v4 : Value), gag be b → (∀ al be, gag be (mfo nw (-9) 0 We K (m :: oz) lz b).2 → Q (some (.int (mfo nw (-9) 0 We K (m :: oz) lz b).1)) n k (mW w o nw rd ps de im ik tx le pz tk ta va fa se it al (nI l.length) (-9) 0 be fo fm io)) → gEv (gT X) 170 73 [.ref o, .int lz, .int 1, v3, v4] [] n k (mW w o nw rd ps de im ik tx le pz tk ta va fa se it al (nI l.length) (-9) 0 be fo fm io) Q := by
        intro lz b be v3 v4 hb hq
        simp only [eX6_findOrder_73, eX6_findOrder_74, Option.toList_some, Option.toList_none, List.cons_append, List.nil_append, gcat_nil, gcat_cons, cat_int, cat_ref, cat_null, cat_ret, cat_long, grc_ref, narZ0, narZ1, true_and, and_true, decide_true, Nat.reduceAdd, Nat.reduceLeDiff, if_true, if_false, eq_self, gfld_in, gobj_in, garr_in, garq_in, glen_in, gisO_in, ex_some, List.getElem?_cons_succ, List.getElem?_cons_zero, List.length_cons, List.length_nil, List.set_cons_succ, List.set_cons_zero, Nat.reduceLT, va_up_eq, va_up_nl, mW_0]
        refine c6_nextOrder hN ha ?_ ?_
        · intro h
          rw [hn1] at h
          cases h
        · intro i al h hg
          rw [hn1] at h
          cases h
          simp only [eX6_findOrder_77, eX6_findOrder_77b, eX6_findOrder_77c, eX6_findOrder_77d, eX6_findOrder_78, Option.toList_some, Option.toList_none, List.cons_append, List.nil_append, gcat_nil, gcat_cons, cat_int, cat_ref, cat_null, cat_ret, cat_long, grc_ref, narZ0, narZ1, true_and, and_true, decide_true, Nat.reduceAdd, Nat.reduceLeDiff, if_true, if_false, eq_self, gfld_in, gobj_in, garr_in, garq_in, glen_in, gisO_in, ex_some, List.getElem?_cons_succ, List.getElem?_cons_zero, List.length_cons, List.length_nil, List.set_cons_succ, List.set_cons_zero, Nat.reduceLT, va_up_eq, va_up_nl]
          refine ihp m lz b al be v3 v4 hx2 hn2 ?_ hb hq
          intro p hp
          have h1 := hg p (by omega)
          have h2 := hn3 p (by omega)
          rw [h2.1] at h1
          exact h1
      have e1 : maa (fun c => mbs (fun x => mbc nw (-9) 0 (fun p => l.getD p 0) l.length c (nI x)) (We c)) 0 K 0 1 = mfl nw (-9) 0 We K l := rfl
      have e2 : mpr nw (fun c => mto (fun x => mtl nw (fun p => l.getD p 0) (nI (mbc nw (-9) 0 (fun p => l.getD p 0) l.length c (nI x))) 0 l.length 0) (We c)) K = mpl nw (-9) 0 We K l := rfl
      have cp : ∀ (x y z : Int32) (D j : Nat), j + D = l.length → (∀ v4, gEv (gT X) 170 73 [.ref o, .int x, .int y, .int z, v4] [] n k (mW w o nw rd ps de im ik tx le pz tk ta va fa se it al (nI l.length) (-9) 0 (mrng 0 l.length al be) fo fm io) Q) → gEv (gT X) 170 44 [.ref o, .int x, .int y, .int z, .int (nI j)] [] n k (mW w o nw rd ps de im ik tx le pz tk ta va fa se it al (nI l.length) (-9) 0 (mrng 0 j al be) fo fm io) Q := by
        intro x y z D
        induction D with
        | zero =>
          intro j hj hq
          have hc : nI l.length ≤ nI j := nI_le (by omega) (by omega)
          rw [eX6_findOrder_44]
          simp only [eX6_findOrder_46, eX6_findOrder_47, eX6_findOrder_50, Option.toList_some, Option.toList_none, List.cons_append, List.nil_append, gcat_nil, gcat_cons, cat_int, cat_ref, cat_null, cat_ret, cat_long, grc_ref, narZ0, narZ1, true_and, and_true, decide_true, Nat.reduceAdd, Nat.reduceLeDiff, if_true, if_false, eq_self, gfld_in, gobj_in, garr_in, garq_in, glen_in, gisO_in, ex_some, List.getElem?_cons_succ, List.getElem?_cons_zero, List.length_cons, List.length_nil, List.set_cons_succ, List.set_cons_zero, Nat.reduceLT, va_up_eq, va_up_nl, mW_0, hc]
          rw [show j = l.length by omega]
          exact hq _
        | succ D ih =>
          intro j hj hq
          have hc : ¬ nI l.length ≤ nI j := nI_ge (by omega) (by omega)
          have v1 : vp_in (nI j) 6 := vp_in_nI (by omega) (by omega)
          have e1 := mrng_up (lo := 0) (k := j) (f := al) (g := be) (x := al j) (by omega) rfl
          rw [eX6_findOrder_44]
          simp only [eX6_findOrder_46, eX6_findOrder_47, eX6_findOrder_50, eX6_findOrder_53, eX6_findOrder_54, eX6_findOrder_57, eX6_findOrder_59, eX6_findOrder_60, eX6_findOrder_63, eX6_findOrder_65, eX6_findOrder_66, eX6_findOrder_67, eX6_findOrder_67b, eX6_findOrder_67c, eX6_findOrder_67d, eX6_findOrder_70, Option.toList_some, Option.toList_none, List.cons_append, List.nil_append, gcat_nil, gcat_cons, cat_int, cat_ref, cat_null, cat_ret, cat_long, grc_ref, narZ0, narZ1, true_and, and_true, decide_true, Nat.reduceAdd, Nat.reduceLeDiff, if_true, if_false, eq_self, gfld_in, gobj_in, garr_in, garq_in, glen_in, gisO_in, ex_some, List.getElem?_cons_succ, List.getElem?_cons_zero, List.length_cons, List.length_nil, List.set_cons_succ, List.set_cons_zero, Nat.reduceLT, va_up_eq, va_up_nl, mW_0, mW_8, mW_9, hc, v1, nI_clamp (show j < 2 ^ 31 by omega), e1, mW_p9, nI_1]
          exact ih (j + 1) (by omega) hq
      have better : (¬ mfl nw (-9) 0 We K l = 0 ∧ (lz = -9 ∨ mpl nw (-9) 0 We K l < lz)) → ∀ v4, gEv (gT X) 170 39 [.ref o, .int lz, .int 1, .int (mpl nw (-9) 0 We K l), v4] [] n k (mW w o nw rd ps de im ik tx le pz tk ta va fa se it al (nI l.length) (-9) 0 be fo fm io) Q := by
        intro hb2 v4
        rw [mfo, if_pos hb2] at hq
        have := cp (mpl nw (-9) 0 We K l) 1 (mpl nw (-9) 0 We K l) l.length 0 (by omega) (fun v4 => tail _ l (mrng 0 l.length al be) _ v4 (by
          intro p hp
          rw [mrng_in (Nat.zero_le _) hp]
          exact ha p hp) hq)
        rw [mrng_nil] at this
        simp only [eX6_findOrder_39, eX6_findOrder_40, eX6_findOrder_40b, eX6_findOrder_40c, eX6_findOrder_40d, eX6_findOrder_41, eX6_findOrder_42, eX6_findOrder_42b, eX6_findOrder_42c, eX6_findOrder_42d, Option.toList_some, Option.toList_none, List.cons_append, List.nil_append, gcat_nil, gcat_cons, cat_int, cat_ref, cat_null, cat_ret, cat_long, grc_ref, narZ0, narZ1, true_and, and_true, decide_true, Nat.reduceAdd, Nat.reduceLeDiff, if_true, if_false, eq_self, gfld_in, gobj_in, garr_in, garq_in, glen_in, gisO_in, ex_some, List.getElem?_cons_succ, List.getElem?_cons_zero, List.length_cons, List.length_nil, List.set_cons_succ, List.set_cons_zero, Nat.reduceLT, va_up_eq, va_up_nl]
        exact this
      rw [eX6_findOrder_9]
      simp only [eX6_findOrder_10, eX6_findOrder_13, eX6_findOrder_14, eX6_findOrder_16, eX6_findOrder_17, eX6_findOrder_20, Option.toList_some, Option.toList_none, List.cons_append, List.nil_append, gcat_nil, gcat_cons, cat_int, cat_ref, cat_null, cat_ret, cat_long, grc_ref, narZ0, narZ1, true_and, and_true, decide_true, Nat.reduceAdd, Nat.reduceLeDiff, if_true, if_false, eq_self, gfld_in, gobj_in, garr_in, garq_in, glen_in, gisO_in, ex_some, List.getElem?_cons_succ, List.getElem?_cons_zero, List.length_cons, List.length_nil, List.set_cons_succ, List.set_cons_zero, Nat.reduceLT, va_up_eq, va_up_nl, mW_0, h10, c6_apart9 hN hK h0 (ap := fun p => l.getD p 0) ha hW, e1]
      by_cases q : mfl nw (-9) 0 We K l = 0
      · rw [if_pos q]
        rw [mfo, if_neg (fun z => z.1 q)] at hq
        exact tail lz b be v3 v4 hb hq
      · rw [if_neg q]
        simp only [eX6_findOrder_23, eX6_findOrder_24, eX6_findOrder_27, eX6_findOrder_27b, eX6_findOrder_27c, eX6_findOrder_27d, eX6_findOrder_28, eX6_findOrder_29, eX6_findOrder_31, Option.toList_some, Option.toList_none, List.cons_append, List.nil_append, gcat_nil, gcat_cons, cat_int, cat_ref, cat_null, cat_ret, cat_long, grc_ref, narZ0, narZ1, true_and, and_true, decide_true, Nat.reduceAdd, Nat.reduceLeDiff, if_true, if_false, eq_self, gfld_in, gobj_in, garr_in, garq_in, glen_in, gisO_in, ex_some, List.getElem?_cons_succ, List.getElem?_cons_zero, List.length_cons, List.length_nil, List.set_cons_succ, List.set_cons_zero, Nat.reduceLT, va_up_eq, va_up_nl, mW_0, c6_priceNow hN hK h0 (ap := fun p => l.getD p 0) ha hW, e2]
        by_cases q2 : lz = -9
        · rw [if_pos q2]
          exact better ⟨q, Or.inl q2⟩ v4
        · rw [if_neg q2]
          simp only [eX6_findOrder_34, eX6_findOrder_35, eX6_findOrder_36, Option.toList_some, Option.toList_none, List.cons_append, List.nil_append, gcat_nil, gcat_cons, cat_int, cat_ref, cat_null, cat_ret, cat_long, grc_ref, narZ0, narZ1, true_and, and_true, decide_true, Nat.reduceAdd, Nat.reduceLeDiff, if_true, if_false, eq_self, gfld_in, gobj_in, garr_in, garq_in, glen_in, gisO_in, ex_some, List.getElem?_cons_succ, List.getElem?_cons_zero, List.length_cons, List.length_nil, List.set_cons_succ, List.set_cons_zero, Nat.reduceLT, va_up_eq, va_up_nl]
          by_cases q3 : lz ≤ mpl nw (-9) 0 We K l
          · rw [if_pos q3]
            rw [mfo, if_neg (fun z => z.2.elim q2 (Int32.not_lt.mpr q3))] at hq
            exact tail lz b be _ v4 hb hq
          · rw [if_neg q3]
            exact better ⟨q, Or.inr (Int32.not_le.mp q3)⟩ v4
  have hx := nxo_ok N hN
  unfold nxo at hx
  simp only [Bool.and_eq_true, beq_iff_eq] at hx
  obtain ⟨⟨hx1, hx2⟩, hx3⟩ := hx
  obtain ⟨l, oz, hlp⟩ : ∃ l oz, gpm N (List.range N) = l :: oz := by
    cases h : gpm N (List.range N) with
    | nil => rw [h] at hx2; cases hx2
    | cons l oz => exact ⟨l, oz, rfl⟩
  rw [hlp] at hx1 hx2 hQ
  have hl : l = List.range N := by
    simp only [List.head?_cons] at hx2
    exact Option.some.inj hx2
  simp only [eX6_findOrder_0, eX6_findOrder_1, eX6_findOrder_4, eX6_findOrder_6, eX6_findOrder_6b, eX6_findOrder_6c, eX6_findOrder_6d, eX6_findOrder_7, eX6_findOrder_8, eX6_findOrder_8b, eX6_findOrder_8c, eX6_findOrder_8d, Option.toList_some, Option.toList_none, List.cons_append, List.nil_append, gcat_nil, gcat_cons, cat_int, cat_ref, cat_null, cat_ret, cat_long, grc_ref, narZ0, narZ1, true_and, and_true, decide_true, Nat.reduceAdd, Nat.reduceLeDiff, if_true, if_false, eq_self, gfld_in, gobj_in, garr_in, garq_in, glen_in, gisO_in, ex_some, List.getElem?_cons_succ, List.getElem?_cons_zero, List.length_cons, List.length_nil, List.set_cons_succ, List.set_cons_zero, Nat.reduceLT, va_up_eq, va_up_nl, mW_0, c6_asTold hN h31]
  refine loop oz l (-9) [] _ _ _ _ hx1 (by rw [hl, List.length_range]) ?_ gag_nil hQ
  intro p hp
  rw [hl, List.length_range] at hp
  rw [hl, List.getD_eq_getElem?_getD, List.getElem?_range hp]
  exact halT hN p hp
/-- what is answered of the order at a place -/
def mor (le : Int32) (b : List Nat) (N : Nat) (kk : Int32) : Int32 := if le = -9 ∨ kk = -1 then le else if kk < nI N then nI (b.getD kk.toNatClampNeg 0) else -9
theorem c6_order_bad {kk : Int32} (h : kk < -1) : gEv (gT X) 171 0 [.ref o, .int kk, .null] [] n k (mW w o nw rd ps de im ik tx le pz tk ta va fa se it al ln fz fb be fo fm io) Q ↔ Q (some (.int (-1))) n k (mW w o nw rd ps de im ik tx le pz tk ta va fa se it al ln fz fb be fo fm io) := by
  have hc : ¬ -1 ≤ kk := Int32.not_le.mpr h
  simp only [eX6_order_0, eX6_order_1, eX6_order_2, eX6_order_5, eX6_order_6, Option.toList_some, Option.toList_none, List.cons_append, List.nil_append, gcat_nil, gcat_cons, cat_int, cat_ref, cat_null, cat_ret, cat_long, grc_ref, narZ0, narZ1, true_and, and_true, decide_true, Nat.reduceAdd, Nat.reduceLeDiff, if_true, if_false, eq_self, gfld_in, gobj_in, garr_in, garq_in, glen_in, gisO_in, ex_some, List.getElem?_cons_succ, List.getElem?_cons_zero, List.length_cons, List.length_nil, List.set_cons_succ, List.set_cons_zero, Nat.reduceLT, va_up_eq, va_up_nl, hc]
theorem c6_order (hN : N ≤ 6) (h31 : nw 31 = nI N) (hK : K ≤ 6) (h0 : nw 0 = nI K) (hW : ∀ c, c < K → nw (5 * c + 4) = nI (We c) ∧ We c < 1000) {kk : Int32} (h : ¬ kk < -1) (hQ : ∀ al be, Q (some (.int (mor (mfo nw (-9) 0 We K (gpm N (List.range N)) (-9) []).1 (mfo nw (-9) 0 We K (gpm N (List.range N)) (-9) []).2 N kk))) n k (mW w o nw rd ps de im ik tx le pz tk ta va fa se it al (nI N) (-9) 0 be fo fm io)) : gEv (gT X) 171 0 [.ref o, .int kk, .null] [] n k (mW w o nw rd ps de im ik tx le pz tk ta va fa se it al ln fz fb be fo fm io) Q := by
  have v31 : vp_in 31 59 := vp_in_nI (n := 31) (by omega) (by omega)
  have y31 : (31 : Int32).toNatClampNeg = 31 := by decide
  have hc : -1 ≤ kk := Int32.not_lt.mp h
  simp only [eX6_order_0, eX6_order_1, eX6_order_2, eX6_order_7, eX6_order_8, Option.toList_some, Option.toList_none, List.cons_append, List.nil_append, gcat_nil, gcat_cons, cat_int, cat_ref, cat_null, cat_ret, cat_long, grc_ref, narZ0, narZ1, true_and, and_true, decide_true, Nat.reduceAdd, Nat.reduceLeDiff, if_true, if_false, eq_self, gfld_in, gobj_in, garr_in, garq_in, glen_in, gisO_in, ex_some, List.getElem?_cons_succ, List.getElem?_cons_zero, List.length_cons, List.length_nil, List.set_cons_succ, List.set_cons_zero, Nat.reduceLT, va_up_eq, va_up_nl, hc, mW_0]
  refine c6_findOrder hN h31 hK h0 hW ?_
  intro al be hb
  have hlen : (mfo nw (-9) 0 We K (gpm N (List.range N)) (-9) []).1 = -9 ∨ (mfo nw (-9) 0 We K (gpm N (List.range N)) (-9) []).2.length = N := by
    refine mfo_len _ _ _ ?_ (Or.inl rfl)
    have hx := nxo_ok N hN
    unfold nxo at hx
    simp only [Bool.and_eq_true, List.all_eq_true, beq_iff_eq] at hx
    exact hx.2
  have hQ := hQ al be
  generalize (mfo nw (-9) 0 We K (gpm N (List.range N)) (-9) []).1 = le0 at *
  generalize (mfo nw (-9) 0 We K (gpm N (List.range N)) (-9) []).2 = b at *
  unfold mor at hQ
  simp only [eX6_order_11, eX6_order_11b, eX6_order_11c, eX6_order_11d, eX6_order_12, eX6_order_13, eX6_order_15, Option.toList_some, Option.toList_none, List.cons_append, List.nil_append, gcat_nil, gcat_cons, cat_int, cat_ref, cat_null, cat_ret, cat_long, grc_ref, narZ0, narZ1, true_and, and_true, decide_true, Nat.reduceAdd, Nat.reduceLeDiff, if_true, if_false, eq_self, gfld_in, gobj_in, garr_in, garq_in, glen_in, gisO_in, ex_some, List.getElem?_cons_succ, List.getElem?_cons_zero, List.length_cons, List.length_nil, List.set_cons_succ, List.set_cons_zero, Nat.reduceLT, va_up_eq, va_up_nl]
  by_cases q : le0 = -9
  · rw [if_pos (Or.inl q)] at hQ
    rw [if_pos q]
    simp only [eX6_order_23, eX6_order_24, eX6_order_49, Option.toList_some, Option.toList_none, List.cons_append, List.nil_append, gcat_nil, gcat_cons, cat_int, cat_ref, cat_null, cat_ret, cat_long, grc_ref, narZ0, narZ1, true_and, and_true, decide_true, Nat.reduceAdd, Nat.reduceLeDiff, if_true, if_false, eq_self, gfld_in, gobj_in, garr_in, garq_in, glen_in, gisO_in, ex_some, List.getElem?_cons_succ, List.getElem?_cons_zero, List.length_cons, List.length_nil, List.set_cons_succ, List.set_cons_zero, Nat.reduceLT, va_up_eq, va_up_nl]
    exact hQ
  · rw [if_neg q]
    simp only [eX6_order_18, eX6_order_19, eX6_order_20, Option.toList_some, Option.toList_none, List.cons_append, List.nil_append, gcat_nil, gcat_cons, cat_int, cat_ref, cat_null, cat_ret, cat_long, grc_ref, narZ0, narZ1, true_and, and_true, decide_true, Nat.reduceAdd, Nat.reduceLeDiff, if_true, if_false, eq_self, gfld_in, gobj_in, garr_in, garq_in, glen_in, gisO_in, ex_some, List.getElem?_cons_succ, List.getElem?_cons_zero, List.length_cons, List.length_nil, List.set_cons_succ, List.set_cons_zero, Nat.reduceLT, va_up_eq, va_up_nl]
    by_cases q1 : kk = -1
    · rw [if_pos (Or.inr q1)] at hQ
      rw [if_neg (fun z => z q1)]
      simp only [eX6_order_23, eX6_order_24, eX6_order_49, Option.toList_some, Option.toList_none, List.cons_append, List.nil_append, gcat_nil, gcat_cons, cat_int, cat_ref, cat_null, cat_ret, cat_long, grc_ref, narZ0, narZ1, true_and, and_true, decide_true, Nat.reduceAdd, Nat.reduceLeDiff, if_true, if_false, eq_self, gfld_in, gobj_in, garr_in, garq_in, glen_in, gisO_in, ex_some, List.getElem?_cons_succ, List.getElem?_cons_zero, List.length_cons, List.length_nil, List.set_cons_succ, List.set_cons_zero, Nat.reduceLT, va_up_eq, va_up_nl]
      exact hQ
    · rw [if_neg (fun z => z.elim q q1)] at hQ
      rw [if_pos q1]
      simp only [eX6_order_27, eX6_order_28, eX6_order_29, eX6_order_32, eX6_order_34, eX6_order_35, Option.toList_some, Option.toList_none, List.cons_append, List.nil_append, gcat_nil, gcat_cons, cat_int, cat_ref, cat_null, cat_ret, cat_long, grc_ref, narZ0, narZ1, true_and, and_true, decide_true, Nat.reduceAdd, Nat.reduceLeDiff, if_true, if_false, eq_self, gfld_in, gobj_in, garr_in, garq_in, glen_in, gisO_in, ex_some, List.getElem?_cons_succ, List.getElem?_cons_zero, List.length_cons, List.length_nil, List.set_cons_succ, List.set_cons_zero, Nat.reduceLT, va_up_eq, va_up_nl, mW_0, mW_1, v31, y31, h31]
      by_cases q2 : kk < nI N
      · rw [if_pos q2] at hQ
        rw [if_neg (Int32.not_le.mpr q2)]
        rcases pk_ix kk (n := N) (by omega) with h1 | h1 | ⟨j, hj, rfl⟩
        · exfalso
          have e1 := Int32.le_iff_toInt_le.mp hc
          have e2 := Int32.lt_iff_toInt_lt.mp h1
          have e3 : (-1 : Int32).toInt = -1 := by decide
          have e4 : (0 : Int32).toInt = 0 := by decide
          exact q1 (Int32.toInt_inj.mp (by omega))
        · exact absurd h1 (Int32.not_le.mpr q2)
        · have vj : vp_in (nI j) 6 := vp_in_nI (by omega) (by omega)
          rw [nI_clamp (by omega)] at hQ
          have hbj := hb j (by have := hlen.resolve_left q; omega)
          simp only [eX6_order_38, eX6_order_39, eX6_order_42, eX6_order_43, eX6_order_44, eX6_order_49, Option.toList_some, Option.toList_none, List.cons_append, List.nil_append, gcat_nil, gcat_cons, cat_int, cat_ref, cat_null, cat_ret, cat_long, grc_ref, narZ0, narZ1, true_and, and_true, decide_true, Nat.reduceAdd, Nat.reduceLeDiff, if_true, if_false, eq_self, gfld_in, gobj_in, garr_in, garq_in, glen_in, gisO_in, ex_some, List.getElem?_cons_succ, List.getElem?_cons_zero, List.length_cons, List.length_nil, List.set_cons_succ, List.set_cons_zero, Nat.reduceLT, va_up_eq, va_up_nl, mW_0, mW_9, vj, nI_clamp (show j < 2 ^ 31 by omega), hbj.1]
          exact hQ
      · rw [if_neg q2] at hQ
        rw [if_pos (Int32.not_lt.mp q2)]
        simp only [eX6_order_47, eX6_order_49, Option.toList_some, Option.toList_none, List.cons_append, List.nil_append, gcat_nil, gcat_cons, cat_int, cat_ref, cat_null, cat_ret, cat_long, grc_ref, narZ0, narZ1, true_and, and_true, decide_true, Nat.reduceAdd, Nat.reduceLeDiff, if_true, if_false, eq_self, gfld_in, gobj_in, garr_in, garq_in, glen_in, gisO_in, ex_some, List.getElem?_cons_succ, List.getElem?_cons_zero, List.length_cons, List.length_nil, List.set_cons_succ, List.set_cons_zero, Nat.reduceLT, va_up_eq, va_up_nl]
        exact hQ
end MF
