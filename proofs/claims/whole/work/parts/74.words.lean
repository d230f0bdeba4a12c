/-! THE TELLER: words -/
def wl : List Nat → Nat
  | [] => 0
  | d :: r => d + 32 * wl r
theorem tWv_wl (tv : Nat → Nat) : ∀ (ds : List Nat) (s D : Nat), (∀ d, d ∈ ds → 1 ≤ d ∧ d < 32) → (∀ j, s ≤ j → j < s + D → tLet tv j) → (tWv tv s D = wl ds ↔ (D = ds.length ∧ ∀ i, i < ds.length → tv (s + i) = ds.getD i 0 + 96)) := by
  intro ds
  induction ds with
  | nil =>
    intro s D hd ht
    constructor
    · intro h
      refine ⟨?_, fun i hi => absurd hi (by simp)⟩
      cases D with
      | zero => rfl
      | succ D =>
        rw [tWv, wl] at h
        have := (ht s (by omega) (by omega)).1
        omega
    · rintro ⟨h, _⟩
      rw [h]; rfl
  | cons d r ih =>
    intro s D hd ht
    have hd0 := hd d List.mem_cons_self
    cases D with
    | zero =>
      constructor
      · intro h; rw [tWv, wl] at h; omega
      · rintro ⟨h, _⟩; rw [List.length_cons] at h; omega
    | succ D =>
      have h0 := ht s (by omega) (by omega)
      have ih' := ih (s + 1) D (fun d h => hd d (List.mem_cons_of_mem _ h)) (fun j h1 h2 => ht j (by omega) (by omega))
      rw [tWv, wl]
      constructor
      · intro h
        have h1 : tv s - 96 = d ∧ tWv tv (s + 1) D = wl r := by omega
        obtain ⟨h2, h3⟩ := ih'.mp h1.2
        refine ⟨by rw [List.length_cons]; omega, fun i hi => ?_⟩
        cases i with
        | zero => rw [List.getD_cons_zero, Nat.add_zero]; omega
        | succ i =>
          rw [List.getD_cons_succ, ← h3 i (by rw [List.length_cons] at hi; omega)]
          congr 1
          omega
      · rintro ⟨h1, h2⟩
        rw [List.length_cons] at h1
        have h3 := h2 0 (by rw [List.length_cons]; omega)
        rw [List.getD_cons_zero, Nat.add_zero] at h3
        have h4 := ih'.mpr ⟨by omega, fun i hi => by
          have := h2 (i + 1) (by rw [List.length_cons]; omega)
          rw [List.getD_cons_succ] at this
          rw [← this]
          congr 1
          omega⟩
        rw [h4]
        omega
def gds (j : Nat) : List Nat := [[3, 15, 9, 14], [8, 15, 12, 5], [19, 3, 1, 12, 5], [18, 9, 13], [18, 15, 15, 13]].getD j []
def gcw (j : Nat) : Nat := [468451, 176616, 5637235, 13618, 441842].getD j 0
theorem gds_ok : ∀ j, j < 5 → (gds j).length = glens.getD j 0 ∧ wl (gds j) = gcw j ∧ (∀ d, d ∈ gds j → 1 ≤ d ∧ d < 32) ∧ (∀ i, i < glens.getD j 0 → gch j i = nI ((gds j).getD i 0 + 96) ∧ (gds j).getD i 0 + 96 < 256) ∧ ¬ gcw j = 0 ∧ glens.getD j 0 < 9 := by decide +kernel
theorem tSp_iff {tv : Nat → Nat} {s e j l : Nat} (hj : j < 5) (hse : s ≤ e) (h256 : ∀ i, s ≤ i → i < e → tv i < 256) (hw : ∀ i, s ≤ i → i < e → tLet tv i) : tSp tv s e j ↔ tW9 tv s e = gcw j := by
  obtain ⟨g1, g2, g3, g4, g5, g6⟩ := gds_ok j hj
  have hm := tWv_wl tv (gds j) s (e - s) g3 (fun i h1 h2 => hw i h1 (by omega))
  rw [g1, g2] at hm
  unfold tW9
  constructor
  · rintro ⟨h1, h2⟩
    rw [if_pos (by omega)]
    refine hm.mpr ⟨h1, fun i hi => ?_⟩
    have h3 := h2 i hi
    obtain ⟨h4, h5⟩ := g4 i hi
    rw [h4] at h3
    exact (nI_eq (by have := h256 (s + i) (by omega) (by omega); omega) (by omega)).mp h3
  · intro h
    by_cases q : e - s < 9
    · rw [if_pos q] at h
      obtain ⟨h1, h2⟩ := hm.mp h
      refine ⟨h1, fun i hi => ?_⟩
      rw [h2 i hi]
      exact (g4 i hi).1.symm
    · rw [if_neg q] at h
      exact absurd h.symm g5
def tCi (q : Nat) : Int32 := if q = 4 then 3 else if q = 5 then 0 else if q = 6 then 1 else if q = 7 then 2 else if q = 8 then 4 else 5
section TE
variable {X : gX} {n k : Nat} {w : gH} {Q : Option Value → Nat → Nat → gH → Prop} {lt nb : Nat → Int32} {tl tt st en : Int32} {l : Nat} {tv : Nat → Nat}
theorem c_itemOfWord (ht : gtx lt tv l) {s : Nat} (hs : s < l) (hw : tLet tv s) : gEv (gT X) 31 0 [.ref 8] [] n k (tW w lt nb (nI l) tt (nI s) (nI (tEn tv l s))) Q ↔ Q (some (.int (tCi (tK tv l s)))) n k (tW w lt nb (nI l) tt (nI s) (nI (tEn tv l s))) := by
  have ee : tEn tv l s = tWe tv l s := by unfold tEn; rw [if_neg (by omega), if_pos hw]
  have ek : tK tv l s = tWk (tW9 tv s (tWe tv l s)) := by unfold tK; rw [if_neg (by omega), if_pos hw]
  rw [ee, ek]
  have hwe := gfst_le (fun j => ¬ tLet tv j) (l - s) s
  have hah := fun i => gfst_ah (fun j => ¬ tLet tv j) (l - s) s i
  have ew : gfst (fun j => ¬ tLet tv j) s (l - s) = tWe tv l s := rfl
  rw [ew] at hwe hah
  have hse : s ≤ tWe tv l s := by omega
  have hel : tWe tv l s ≤ l := by omega
  have hlet : ∀ i, s ≤ i → i < tWe tv l s → tLet tv i := fun i h1 h2 => Decidable.not_not.mp (hah i h1 h2)
  have h256 : ∀ i, s ≤ i → i < tWe tv l s → tv i < 256 := fun i h1 h2 => (ht.2 i (by omega)).2
  have i0 : tSp tv s (tWe tv l s) 0 ↔ tW9 tv s (tWe tv l s) = 468451 := tSp_iff (l := l) (by omega) hse h256 hlet
  have i1 : tSp tv s (tWe tv l s) 1 ↔ tW9 tv s (tWe tv l s) = 176616 := tSp_iff (l := l) (by omega) hse h256 hlet
  have i2 : tSp tv s (tWe tv l s) 2 ↔ tW9 tv s (tWe tv l s) = 5637235 := tSp_iff (l := l) (by omega) hse h256 hlet
  have i3 : tSp tv s (tWe tv l s) 3 ↔ tW9 tv s (tWe tv l s) = 13618 := tSp_iff (l := l) (by omega) hse h256 hlet
  have i4 : tSp tv s (tWe tv l s) 4 ↔ tW9 tv s (tWe tv l s) = 441842 := tSp_iff (l := l) (by omega) hse h256 hlet
  have s0 : ∀ {Q : Option Value → Nat → Nat → gH → Prop}, gEv (gT X) 32 0 [.ref 8, .retAddr 1, .null] [] n k (tW w lt nb (nI l) tt (nI s) (nI (tWe tv l s))) Q ↔ Q (some (.int (gb (tSp tv s (tWe tv l s) 0)))) n k (tW w lt nb (nI l) tt (nI s) (nI (tWe tv l s))) := c_spells (j := 0) ht (by omega) hse hel
  have s1 : ∀ {Q : Option Value → Nat → Nat → gH → Prop}, gEv (gT X) 32 0 [.ref 8, .retAddr 2, .null] [] n k (tW w lt nb (nI l) tt (nI s) (nI (tWe tv l s))) Q ↔ Q (some (.int (gb (tSp tv s (tWe tv l s) 1)))) n k (tW w lt nb (nI l) tt (nI s) (nI (tWe tv l s))) := c_spells (j := 1) ht (by omega) hse hel
  have s2 : ∀ {Q : Option Value → Nat → Nat → gH → Prop}, gEv (gT X) 32 0 [.ref 8, .retAddr 3, .null] [] n k (tW w lt nb (nI l) tt (nI s) (nI (tWe tv l s))) Q ↔ Q (some (.int (gb (tSp tv s (tWe tv l s) 2)))) n k (tW w lt nb (nI l) tt (nI s) (nI (tWe tv l s))) := c_spells (j := 2) ht (by omega) hse hel
  have s3 : ∀ {Q : Option Value → Nat → Nat → gH → Prop}, gEv (gT X) 32 0 [.ref 8, .retAddr 4, .null] [] n k (tW w lt nb (nI l) tt (nI s) (nI (tWe tv l s))) Q ↔ Q (some (.int (gb (tSp tv s (tWe tv l s) 3)))) n k (tW w lt nb (nI l) tt (nI s) (nI (tWe tv l s))) := c_spells (j := 3) ht (by omega) hse hel
  have s4 : ∀ {Q : Option Value → Nat → Nat → gH → Prop}, gEv (gT X) 32 0 [.ref 8, .retAddr 5, .null] [] n k (tW w lt nb (nI l) tt (nI s) (nI (tWe tv l s))) Q ↔ Q (some (.int (gb (tSp tv s (tWe tv l s) 4)))) n k (tW w lt nb (nI l) tt (nI s) (nI (tWe tv l s))) := c_spells (j := 4) ht (by omega) hse hel
  simp only [eX2_itemOfWord_0, eX2_itemOfWord_1, eX2_itemOfWord_3, eX2_itemOfWord_6, eX2_itemOfWord_9, eX2_itemOfWord_10, eX2_itemOfWord_11, eX2_itemOfWord_12, eX2_itemOfWord_14, eX2_itemOfWord_17, eX2_itemOfWord_20, eX2_itemOfWord_21, eX2_itemOfWord_22, eX2_itemOfWord_23, eX2_itemOfWord_25, eX2_itemOfWord_28, eX2_itemOfWord_31, eX2_itemOfWord_32, eX2_itemOfWord_33, eX2_itemOfWord_34, eX2_itemOfWord_36, eX2_itemOfWord_39, eX2_itemOfWord_42, eX2_itemOfWord_43, eX2_itemOfWord_44, eX2_itemOfWord_45, eX2_itemOfWord_47, eX2_itemOfWord_50, eX2_itemOfWord_53, eX2_itemOfWord_54, eX2_itemOfWord_57, eX2_itemOfWord_58, Option.toList_some, Option.toList_none, List.cons_append, List.nil_append, gcat_nil, gcat_cons, cat_int, cat_ref, cat_null, cat_ret, cat_long, grc_ref, narZ0, narZ1, true_and, and_true, decide_true, Nat.reduceAdd, Nat.reduceLeDiff, if_true, if_false, eq_self, gfld_in, gobj_in, garr_in, garq_in, glen_in, gisO_in, ex_some, List.getElem?_cons_succ, List.getElem?_cons_zero, List.length_cons, List.length_nil, List.set_cons_succ, List.set_cons_zero, Nat.reduceLT, va_up_eq, va_up_nl, tW_8, s0, s1, s2, s3, s4, gb_0, i0, i1, i2, i3, i4]
  generalize tW9 tv s (tWe tv l s) = W
  unfold tWk
  by_cases q0 : W = 468451
  · rw [if_neg (fun z => z q0), if_pos q0]; rfl
  · rw [if_pos q0, if_neg q0]
    by_cases q1 : W = 176616
    · rw [if_neg (fun z => z q1), if_pos q1]; rfl
    · rw [if_pos q1, if_neg q1]
      by_cases q2 : W = 5637235
      · rw [if_neg (fun z => z q2), if_pos q2]; rfl
      · rw [if_pos q2, if_neg q2]
        by_cases q3 : W = 13618
        · rw [if_neg (fun z => z q3), if_pos q3]; rfl
        · rw [if_pos q3, if_neg q3]
          by_cases q4 : W = 441842
          · rw [if_neg (fun z => z q4), if_pos q4]; rfl
          · rw [if_pos q4, if_neg q4]; rfl
end TE
