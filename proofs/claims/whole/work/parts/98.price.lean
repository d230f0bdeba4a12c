/-! THE ORDER: prices -/
def tlN (cs : Nat → Nat) : List Nat → Nat → Nat
  | [], _ => 0
  | t :: r, s => cs t + (if s.testBit t = true then 0 else tlN cs r s)
def mtN (V : List (Nat × Nat)) (cs : Nat → Nat) (c : Nat) : List Nat → Nat → Nat
  | [], _ => 0
  | t :: r, p => (if (vkf V p 0).testBit c = true then cs t else 0) + mtN V cs c r (p ||| 2 ^ t)
theorem mtl_past {nw : Nat → Int32} {ap : Nat → Nat} {b j D : Nat} {a : Int32} (h : b < j) (hj : j < 1000) : mtl nw ap (nI b) j D a = a := by
  cases D with
  | zero => rfl
  | succ D => rw [mtl, if_pos (nI_lt h (by omega))]
theorem mtl_tl {nw : Nat → Int32} {ap : Nat → Nat} {cs : Nat → Nat} {s : Nat} : ∀ (l : List Nat) (j a : Nat), (∀ i, i < l.length → ap (j + i) = l.getD i 0) → (∀ t, t ∈ l → nw (3 * t + 34) = nI (cs t)) → j + l.length < 1000 → mtl nw ap (nI (j + lfi l s)) j l.length (nI a) = nI (a + tlN cs l s) := by
  intro l
  induction l with
  | nil => intro j a _ _ _; rfl
  | cons t r ih =>
    intro j a ha hc hj
    have h0 : ap j = t := ha 0 (by rw [List.length_cons]; omega)
    rw [List.length_cons] at hj
    have hl := lfi_le (t :: r) s
    rw [List.length_cons] at hl
    rw [List.length_cons, mtl, if_neg (nI_nlt (by omega) (by omega)), h0, hc t List.mem_cons_self, nI_add, tlN]
    rw [lfi] at hl ⊢
    by_cases q : s.testBit t = true
    · rw [if_pos q, if_pos q, Nat.add_zero, mtl_past (by omega) (by omega), Nat.add_zero]
    · rw [if_neg q] at hl ⊢
      rw [if_neg q, show j + (lfi r s + 1) = j + 1 + lfi r s by omega, ih (j + 1) (a + cs t) (fun i hi => by
        have := ha (i + 1) (by rw [List.length_cons]; omega)
        rw [show j + 1 + i = j + (i + 1) by omega, this]
        rfl) (fun u hu => hc u (List.mem_cons_of_mem _ hu)) (by omega), Nat.add_assoc]
theorem mtN_le {V : List (Nat × Nat)} {cs : Nat → Nat} {c : Nat} (hc : ∀ t, cs t ≤ 9) : ∀ (l : List Nat) (p : Nat), mtN V cs c l p ≤ 9 * l.length := by
  intro l
  induction l with
  | nil => intro p; exact Nat.le_refl _
  | cons t r ih =>
    intro p
    rw [mtN, List.length_cons]
    have h1 := ih (p ||| 2 ^ t)
    have h2 := hc t
    split <;> omega
section PA
variable {K : Nat} {We : Nat → Nat} {st : Nat → Nat → Nat} {V : List (Nat × Nat)} {cs : Nat → Nat}
theorem mt_ub (hV : V = pvs st We 0 K) {c : Nat} (hc : c < K) : ∀ (l : List Nat) (p : Nat), (∀ y, y ≤ We c → st c y &&& p = 0 → tlN cs l (st c y) ≤ mtN V cs c l p) ∧ ((vkf V p 0).testBit c = true → ∃ y, y ≤ We c ∧ st c y &&& p = 0 ∧ tlN cs l (st c y) = mtN V cs c l p) ∧ (¬ (vkf V p 0).testBit c = true → mtN V cs c l p = 0) := by
  have al : ∀ p, (vkf V p 0).testBit c = true ↔ ∃ y, y ≤ We c ∧ st c y &&& p = 0 := by
    intro p
    rw [kf_bit hV, Nat.or_zero]
    exact ⟨fun h => h.2, fun h => ⟨hc, h⟩⟩
  intro l
  induction l with
  | nil =>
    intro p
    refine ⟨fun y _ _ => Nat.le_refl _, fun h => ?_, fun _ => rfl⟩
    obtain ⟨y, h1, h2⟩ := (al p).mp h
    exact ⟨y, h1, h2, rfl⟩
  | cons t r ih =>
    intro p
    obtain ⟨i1, i2, i3⟩ := ih (p ||| 2 ^ t)
    refine ⟨?_, ?_, ?_⟩
    · intro y hy hp
      rw [tlN, mtN, if_pos ((al p).mpr ⟨y, hy, hp⟩)]
      cases b : (st c y).testBit t with
      | true => rw [if_pos rfl]; omega
      | false =>
        rw [if_neg (by decide)]
        have := i1 y hy (stp0.mpr ⟨hp, b⟩)
        omega
    · intro h
      rw [mtN, if_pos h]
      by_cases q : (vkf V (p ||| 2 ^ t) 0).testBit c = true
      · obtain ⟨y, h1, h2, h3⟩ := i2 q
        obtain ⟨h4, h5⟩ := stp0.mp h2
        exact ⟨y, h1, h4, by rw [tlN, h5, if_neg (by decide), h3]⟩
      · obtain ⟨y, h1, h2⟩ := (al p).mp h
        cases b : (st c y).testBit t with
        | true => exact ⟨y, h1, h2, by rw [tlN, b, if_pos rfl, i3 q]⟩
        | false => exact absurd ((al _).mpr ⟨y, h1, stp0.mpr ⟨h2, b⟩⟩) q
    · intro h
      have q : ¬ (vkf V (p ||| 2 ^ t) 0).testBit c = true := by
        intro z
        obtain ⟨y, h1, h2⟩ := (al _).mp z
        exact h ((al p).mpr ⟨y, h1, (stp0.mp h2).1⟩)
      rw [mtN, if_neg h, i3 q]
/-- sums over the kinds -/
def smN (sh g : Nat → Nat) : Nat → Nat → Nat → Nat := gfor (fun c a => a + sh c * g c)
theorem smN_sp {sh g g' : Nat → Nat} {ks k : Nat} (hg : ∀ c, g c = (if ks.testBit c = true then k else 0) + g' c) : ∀ (D j b d : Nat), smN sh g j D (b + d * k) = smN sh g' j D b + psh sh ks j D d * k := by
  intro D
  induction D with
  | zero => intro j b d; rfl
  | succ D ih =>
    intro j b d
    have e1 : smN sh g j (D + 1) (b + d * k) = smN sh g (j + 1) D (b + d * k + sh j * g j) := rfl
    have e2 : smN sh g' j (D + 1) b = smN sh g' (j + 1) D (b + sh j * g' j) := rfl
    have e3 : psh sh ks j (D + 1) d = psh sh ks (j + 1) D (if ks.testBit j = true then d + sh j else d) := rfl
    rw [e1, e2, e3, hg j, ← ih]
    congr 1
    by_cases q : ks.testBit j = true
    · rw [if_pos q, if_pos q, Nat.mul_add, Nat.add_mul]; omega
    · rw [if_neg q, if_neg q, Nat.zero_add]; omega
theorem smN_0 {sh : Nat → Nat} : ∀ (D j a : Nat), smN sh (fun _ => 0) j D a = a := by
  intro D
  induction D with
  | zero => intro j a; rfl
  | succ D ih =>
    intro j a
    have e1 : smN sh (fun _ => 0) j (D + 1) a = smN sh (fun _ => 0) (j + 1) D (a + sh j * 0) := rfl
    rw [e1, ih, Nat.mul_zero, Nat.add_zero]
theorem sm_PR {sh : Nat → Nat} : ∀ (l : List Nat) (p : Nat), smN sh (fun c => mtN V cs c l p) 0 K 0 = pPR cs (fun p => psh sh (vkf V p 0) 0 K 0) l p := by
  intro l
  induction l with
  | nil => intro p; exact smN_0 K 0 0
  | cons t r ih =>
    intro p
    have h := smN_sp (sh := sh) (g := fun c => mtN V cs c (t :: r) p) (g' := fun c => mtN V cs c r (p ||| 2 ^ t)) (ks := vkf V p 0) (k := cs t) (fun c => rfl) K 0 0 0
    rw [Nat.zero_mul, Nat.add_zero] at h
    rw [h, ih, pPR]
theorem psh_le {sh : Nat → Nat} {ks : Nat} (hs : ∀ c, sh c ≤ 99) : ∀ (D j a : Nat), psh sh ks j D a ≤ a + 99 * D := by
  intro D
  induction D with
  | zero => intro j a; exact Nat.le_refl _
  | succ D ih =>
    intro j a
    have e3 : psh sh ks j (D + 1) a = psh sh ks (j + 1) D (if ks.testBit j = true then a + sh j else a) := rfl
    rw [e3]
    have h2 := hs j
    by_cases q : ks.testBit j = true
    · rw [if_pos q]
      have h1 := ih (j + 1) (a + sh j)
      omega
    · rw [if_neg q]
      have h1 := ih (j + 1) a
      omega
end PA
def pCs (nw : Nat → Int32) (t : Nat) : Nat := (nw (3 * t + 34)).toNatClampNeg % 10
def pSh (nw : Nat → Int32) (c : Nat) : Nat := (nw (5 * c + 5)).toNatClampNeg % 100
theorem gpm_ok : ∀ N, N < 7 → (gpm N (List.range N)).all (fun l => l.length == N && l.all (fun t => decide (t < N)) && decide l.Nodup) = true := by decide +kernel
theorem gfor_nI {nw to : Nat → Int32} {sh m : Nat → Nat} {K : Nat} (h : ∀ c, c < K → nw (5 * c + 5) = nI (sh c) ∧ to c = nI (m c)) : ∀ (D j a : Nat), j + D ≤ K → gfor (fun c a => a + nw (5 * c + 5) * to c) j D (nI a) = nI (smN sh m j D a) := by
  intro D
  induction D with
  | zero => intro j a _; rfl
  | succ D ih =>
    intro j a hj
    have e1 : smN sh m j (D + 1) a = smN sh m (j + 1) D (a + sh j * m j) := rfl
    obtain ⟨h1, h2⟩ := h j (by omega)
    rw [gfor, h1, h2, pk_mul, nI_add, e1]
    exact ih (j + 1) _ (by omega)
section PB
variable {nw kr ts co : Nat → Int32} {kc tc rm jm : Int32} {K N : Nat}
theorem pCs_at (hR : tRl nw kr ts co kc tc rm jm K N) {t : Nat} (ht : t < N) : nw (3 * t + 34) = nI (pCs nw t) := by
  obtain ⟨hK, hN, r0, e1, r31, e2, rk, rt, e3, rc, e4, hrg⟩ := hR
  obtain ⟨_, _, ⟨m, h1, h2, h3⟩⟩ := hrg.2 t ht
  unfold pCs
  rw [h1, nI_clamp (by omega), Nat.mod_eq_of_lt (by omega)]
theorem pSh_at (hR : tRl nw kr ts co kc tc rm jm K N) {c : Nat} (hc : c < K) : nw (5 * c + 5) = nI (pSh nw c) := by
  obtain ⟨hK, hN, r0, e1, r31, e2, rk, rt, e3, rc, e4, hrg⟩ := hR
  obtain ⟨_, _, _, _, ⟨m, h1, h2, h3⟩⟩ := hrg.1 c hc
  unfold pSh
  rw [h1, nI_clamp (by omega), Nat.mod_eq_of_lt (by omega)]
theorem pCs_9 (t : Nat) : pCs nw t ≤ 9 := by
  have : pCs nw t < 10 := Nat.mod_lt _ (by omega)
  omega
theorem pSh_99 (c : Nat) : pSh nw c ≤ 99 := by
  have : pSh nw c < 100 := Nat.mod_lt _ (by omega)
  omega
theorem mto_N (hR : tRl nw kr ts co kc tc rm jm K N) {l : List Nat} (hl : ∀ t, t ∈ l → t < N) (hlen : l.length ≤ 6) {c : Nat} (hc : c < K) : mto (fun x => mtl nw (fun p => l.getD p 0) (nI (mbc nw (-9) 0 (fun p => l.getD p 0) l.length c (nI x))) 0 l.length 0) (mWe nw c) = nI (mtN (pvs (pst kr ts N) (mWe nw) 0 K) (pCs nw) c l 0) := by
  have ev : ∀ x, mtl nw (fun p => l.getD p 0) (nI (mbc nw (-9) 0 (fun p => l.getD p 0) l.length c (nI x))) 0 l.length 0 = nI (tlN (pCs nw) l (pst kr ts N c x)) := by
    intro x
    have h := mtl_tl (nw := nw) (ap := fun p => l.getD p 0) (cs := pCs nw) (s := pst kr ts N c x) l 0 0 (fun i _ => by rw [Nat.zero_add]) (fun t ht => pCs_at hR (hl t ht)) (by omega)
    rw [Nat.zero_add, Nat.zero_add, nI_0] at h
    rw [mbc_lfi hR hl hc]
    exact h
  obtain ⟨u1, u2, u3⟩ := mt_ub (V := pvs (pst kr ts N) (mWe nw) 0 K) (cs := pCs nw) rfl hc l 0
  have hb := mtN_le (V := pvs (pst kr ts N) (mWe nw) 0 K) (cs := pCs nw) (c := c) pCs_9 l 0
  have e2 := mto_imx (tl := fun x => mtl nw (fun p => l.getD p 0) (nI (mbc nw (-9) 0 (fun p => l.getD p 0) l.length c (nI x))) 0 l.length 0) (mWe nw c + 1) 0 _ 0 imx_0
  unfold mto
  refine imx_un e2 (P' := fun v => ∃ y, y ≤ mWe nw c ∧ v = nI (tlN (pCs nw) l (pst kr ts N c y))) ⟨?_, nI_pos' (by omega), ?_⟩ (fun v => ⟨?_, ?_⟩)
  · right
    have h0 : (vkf (pvs (pst kr ts N) (mWe nw) 0 K) 0 0).testBit c = true := (kf_bit rfl).mpr ⟨hc, 0, by omega, Nat.and_zero _⟩
    obtain ⟨y, h1, _, h3⟩ := u2 h0
    exact ⟨y, h1, by rw [h3]⟩
  · rintro v ⟨y, h1, rfl⟩
    exact nI_le (u1 y h1 (Nat.and_zero _)) (by omega)
  · rintro (z | ⟨y, h1, h2, h3⟩)
    · exact z.elim
    · exact ⟨y, by omega, by rw [h3]; exact ev y⟩
  · rintro ⟨y, h1, h2⟩
    exact Or.inr ⟨y, by omega, by omega, by rw [h2]; exact (ev y).symm⟩
theorem mpl_PR (hR : tRl nw kr ts co kc tc rm jm K N) {l : List Nat} (hl : ∀ t, t ∈ l → t < N) (hlen : l.length ≤ 6) : mpl nw (-9) 0 (mWe nw) K l = nI (pPR (pCs nw) (fun p => psh (pSh nw) (vkf (pvs (pst kr ts N) (mWe nw) 0 K) p 0) 0 K 0) l 0) := by
  have h := gfor_nI (nw := nw) (to := fun c => mto (fun x => mtl nw (fun p => l.getD p 0) (nI (mbc nw (-9) 0 (fun p => l.getD p 0) l.length c (nI x))) 0 l.length 0) (mWe nw c)) (sh := pSh nw) (m := fun c => mtN (pvs (pst kr ts N) (mWe nw) 0 K) (pCs nw) c l 0) (K := K) (fun c hc => ⟨pSh_at hR hc, mto_N hR hl hlen hc⟩) K 0 0 (by omega)
  rw [nI_0, sm_PR] at h
  exact h
theorem psh_600 (hK : K ≤ 6) {V : List (Nat × Nat)} (p : Nat) : psh (pSh nw) (vkf V p 0) 0 K 0 ≤ 600 := by
  have := psh_le (sh := pSh nw) (ks := vkf V p 0) pSh_99 K 0 0
  omega
/-- both find the same order -/
theorem p_or (hR : tRl nw kr ts co kc tc rm jm K N) : oM (bB (pvs (pst kr ts N) (mWe nw) 0 K) (pCs nw) (fun p => psh (pSh nw) (vkf (pvs (pst kr ts N) (mWe nw) 0 K) p 0) 0 K 0) N 0) (mfo nw (-9) 0 (mWe nw) K (gpm N (List.range N)) (-9) []).1 (mfo nw (-9) 0 (mWe nw) K (gpm N (List.range N)) (-9) []).2 := by
  have hN := hR.2.1
  have hK := hR.1
  have h := mfo_ok (V := pvs (pst kr ts N) (mWe nw) 0 K) (cs := pCs nw) (sp := fun p => psh (pSh nw) (vkf (pvs (pst kr ts N) (mWe nw) 0 K) p 0) 0 K 0) (nw := nw) (We := mWe nw) (K := K) (gpm N (List.range N)) (fun l hl => by
    have ho := List.all_eq_true.mp (gpm_ok N (by omega)) l hl
    simp only [Bool.and_eq_true, beq_iff_eq, decide_eq_true_eq] at ho
    obtain ⟨⟨h1, h2⟩, h3⟩ := ho
    have h2' : ∀ t, t ∈ l → t < N := fun t ht => of_decide_eq_true (List.all_eq_true.mp h2 t ht)
    have hp := pPR_le (cs := pCs nw) (sp := fun p => psh (pSh nw) (vkf (pvs (pst kr ts N) (mWe nw) 0 K) p 0) 0 K 0) pCs_9 (psh_600 hK) l 0
    exact ⟨mfl_ap hR h2' (by omega) h3, mpl_PR hR h2' (by omega), by omega⟩) none (-9) [] rfl
  unfold bB
  rw [lcp_0 N (by omega), List.length_range]
  exact h
end PB
section PC
variable {X : gX} {w : gH} {n k : Nat}
theorem c_placed2 {Q : Option Value → Nat → Nat → gH → Prop} {vk vs rp nt : Nat → Int32} {kr ts co : Nat → Int32} {rm jm : Int32} {K N : Nat} (hT : isTr w 1 kr ts co (nI K) (nI N) rm jm) (hN : N ≤ 6) {Z : Nat → Nat} {i : Nat} (hi : i < N) (hfull : ∀ j, j ≤ i → ppl nt Z j 0 < 2 ^ N ∧ nt (ppl nt Z j 0) = nI (Z (ppl nt Z j 0)) ∧ Z (ppl nt Z j 0) < N) {vc : Int32} : gEv (gT X) 24 0 [.ref 15, .ref 1, .int (nI i), .null, .null] [] n k (pW w vk vs vc rp nt) Q ↔ Q (some (.int (nI (Z (ppl nt Z i 0))))) n k (pW w vk vs vc rp nt) := by
  have h64 := gp2_64 hN
  have hst : ∀ (D p : Nat), ppl nt Z (D + 1) p = ppl nt Z D p ||| 2 ^ Z (ppl nt Z D p) := by
    intro D
    induction D with
    | zero => intro p; rfl
    | succ D ih => intro p; rw [ppl, ih]; rfl
  have hin : 0 ≤ nI i ∧ nI i < nI N := ⟨nI_pos' (by omega), nI_lt hi (by omega)⟩
  have loop : ∀ (D j : Nat), j + D = i → (gEv (gT X) 24 16 [.ref 15, .ref 1, .int (nI i), .int (nI (ppl nt Z j 0)), .int (nI j)] [] n k (pW w vk vs vc rp nt) Q ↔ Q (some (.int (nI (Z (ppl nt Z i 0))))) n k (pW w vk vs vc rp nt)) := by
    intro D
    induction D with
    | zero =>
      intro j hj
      have hc : nI i ≤ nI j := nI_le (by omega) (by omega)
      obtain ⟨h1, z1, z2⟩ := hfull j (by omega)
      have hcb : ∀ {Q : Option Value → Nat → Nat → gH → Prop}, gEv (gT X) 25 0 [.ref 15, .int (nI (ppl nt Z j 0))] [] n k (pW w vk vs vc rp nt) Q ↔ Q (some (.int (nt (ppl nt Z j 0)))) n k (pW w vk vs vc rp nt) := by intros; exact c_testBehind (by omega)
      rw [eX1_placed_16]
      simp only [eX1_placed_18, eX1_placed_19, eX1_placed_38, eX1_placed_39, eX1_placed_40, eX1_placed_43, Option.toList_some, Option.toList_none, List.cons_append, List.nil_append, gcat_nil, gcat_cons, cat_int, cat_ref, cat_null, cat_ret, cat_long, grc_ref, narZ0, narZ1, true_and, and_true, decide_true, Nat.reduceAdd, Nat.reduceLeDiff, if_true, if_false, eq_self, gfld_in, gobj_in, garr_in, garq_in, glen_in, gisO_in, ex_some, List.getElem?_cons_succ, List.getElem?_cons_zero, List.length_cons, List.length_nil, List.set_cons_succ, List.set_cons_zero, Nat.reduceLT, va_up_eq, va_up_nl, hc, pW_15, hcb, nI_clamp (show ppl nt Z j 0 < 2 ^ 31 by omega), z1]
      rw [show j = i by omega]
    | succ D ih =>
      intro j hj
      have hc : ¬ nI i ≤ nI j := nI_ge (by omega) (by omega)
      obtain ⟨h1, z1, z2⟩ := hfull j (by omega)
      have hcb : ∀ {Q : Option Value → Nat → Nat → gH → Prop}, gEv (gT X) 25 0 [.ref 15, .int (nI (ppl nt Z j 0))] [] n k (pW w vk vs vc rp nt) Q ↔ Q (some (.int (nt (ppl nt Z j 0)))) n k (pW w vk vs vc rp nt) := by intros; exact c_testBehind (by omega)
      rw [eX1_placed_16]
      simp only [eX1_placed_18, eX1_placed_19, eX1_placed_22, eX1_placed_23, eX1_placed_24, eX1_placed_25, eX1_placed_26, eX1_placed_29, eX1_placed_30, eX1_placed_31, eX1_placed_31b, eX1_placed_31c, eX1_placed_31d, eX1_placed_32, eX1_placed_32b, eX1_placed_32c, eX1_placed_32d, eX1_placed_35, Option.toList_some, Option.toList_none, List.cons_append, List.nil_append, gcat_nil, gcat_cons, cat_int, cat_ref, cat_null, cat_ret, cat_long, grc_ref, narZ0, narZ1, true_and, and_true, decide_true, Nat.reduceAdd, Nat.reduceLeDiff, if_true, if_false, eq_self, gfld_in, gobj_in, garr_in, garq_in, glen_in, gisO_in, ex_some, List.getElem?_cons_succ, List.getElem?_cons_zero, List.length_cons, List.length_nil, List.set_cons_succ, List.set_cons_zero, Nat.reduceLT, va_up_eq, va_up_nl, hc, pW_15, hcb, nI_clamp (show ppl nt Z j 0 < 2 ^ 31 by omega), z1, nI_shl _ (show Z (ppl nt Z j 0) < 8 by omega), nI_or, nI_1]
      rw [← hst]
      exact ih (j + 1) (by omega)
  have h10 : ¬ (1 : Int32) = 0 := by decide
  have h0 := loop i 0 (by omega)
  simp only [eX1_placed_0, eX1_placed_1, eX1_placed_2, eX1_placed_5, eX1_placed_11, eX1_placed_12, eX1_placed_12b, eX1_placed_12c, eX1_placed_12d, eX1_placed_13, eX1_placed_14, eX1_placed_14b, eX1_placed_14c, eX1_placed_14d, Option.toList_some, Option.toList_none, List.cons_append, List.nil_append, gcat_nil, gcat_cons, cat_int, cat_ref, cat_null, cat_ret, cat_long, grc_ref, narZ0, narZ1, true_and, and_true, decide_true, Nat.reduceAdd, Nat.reduceLeDiff, if_true, if_false, eq_self, gfld_in, gobj_in, garr_in, garq_in, glen_in, gisO_in, ex_some, List.getElem?_cons_succ, List.getElem?_cons_zero, List.length_cons, List.length_nil, List.set_cons_succ, List.set_cons_zero, Nat.reduceLT, va_up_eq, va_up_nl, pW_1 hT, c_hasTest (pW_tr hT), gb_t hin, h10, not_false_eq_true]
  exact h0
theorem s_order (hL : LI w n k) {a : Int32} : GG X 101 171 [.ref 0, .int a, .null] [.ref 24, .int a, .null] n k w := by
  obtain ⟨nw, ps, d, im, ik, tv, l, S, Fk, Fx, Fb, hC, hM⟩ := hL
  have hC' := hC
  obtain ⟨h0, ⟨kr, ts, co, kc, tc, rm, jm, K, N, hT, hR⟩, hH, hTe, hPl, hWi⟩ := hC'
  have hR' := hR
  obtain ⟨hK, hN, r0, e1, r31, e2, rk, rt, e3, rc, e4, hrg⟩ := hR'
  subst e1; subst e2; subst e3; subst e4
  have h1 : w 1 = .inr (3, [.ref 2, .ref 3, .ref 4, .int (nI K), .int (nI N), .int (nw 50), .int (nw 58)]) := hT.1
  have hd6 : d ≤ 6 := by obtain ⟨_, _, _, _, _, _, _, h, _⟩ := hH; exact h
  have g5 : gisO 0 (w 5) = true := by obtain ⟨nx, rg, ig, h5, _⟩ := hH; rw [h5]; rfl
  unfold GG
  simp only [eX5_order_0, eX5_order_1, eX5_order_2, Option.toList_some, Option.toList_none, List.cons_append, List.nil_append, gcat_nil, gcat_cons, cat_int, cat_ref, cat_null, cat_ret, cat_long, grc_ref, narZ0, narZ1, true_and, and_true, decide_true, Nat.reduceAdd, Nat.reduceLeDiff, if_true, if_false, eq_self, gfld_in, gobj_in, garr_in, garq_in, glen_in, gisO_in, ex_some, List.getElem?_cons_succ, List.getElem?_cons_zero, List.length_cons, List.length_nil, List.set_cons_succ, List.set_cons_zero, Nat.reduceLT, va_up_eq, va_up_nl]
  by_cases q : a < -1
  · rw [if_neg (Int32.not_le.mpr q)]
    simp only [eX5_order_5, eX5_order_6, Option.toList_some, Option.toList_none, List.cons_append, List.nil_append, gcat_nil, gcat_cons, cat_int, cat_ref, cat_null, cat_ret, cat_long, grc_ref, narZ0, narZ1, true_and, and_true, decide_true, Nat.reduceAdd, Nat.reduceLeDiff, if_true, if_false, eq_self, gfld_in, gobj_in, garr_in, garq_in, glen_in, gisO_in, ex_some, List.getElem?_cons_succ, List.getElem?_cons_zero, List.length_cons, List.length_nil, List.set_cons_succ, List.set_cons_zero, Nat.reduceLT, va_up_eq, va_up_nl]
    refine ⟨_, rfl, ?_⟩
    obtain ⟨rd, tx, pz, tk, ta, va, fa, it, al, ln, fz, fb, be, fo, fm, io, hw, ht, hF⟩ := hM; refine ⟨by rw [hw]; rfl, ?_⟩; rw [hw]
    rw [c6_order_bad q]
    exact ⟨rfl, LI_mk hC ht hF⟩
  · rw [if_pos (Int32.not_lt.mp q)]
    obtain ⟨vk, vs, vc, rp, nt, p15, p16, p17, p18, p19⟩ := hPl
    have hw8 : pW w vk vs vc rp nt = w := pW_self p15 p16 p17 p18 p19
    have t0' : ∀ {vk vs rp nt : Nat → Int32} {vc : Int32}, pW w vk vs vc rp nt 0 = (.inr (5, [.ref 1, .ref 5, .ref 7, .ref 8, .ref 15, .ref 20]) : gE) := by intros; rw [pW_ne (by omega), h0]
    rw [← hw8]
    simp only [eX5_order_7, eX5_order_8, eX5_order_11, eX5_order_12, eX5_order_15, Option.toList_some, Option.toList_none, List.cons_append, List.nil_append, gcat_nil, gcat_cons, cat_int, cat_ref, cat_null, cat_ret, cat_long, grc_ref, narZ0, narZ1, true_and, and_true, decide_true, Nat.reduceAdd, Nat.reduceLeDiff, if_true, if_false, eq_self, gfld_in, gobj_in, garr_in, garq_in, glen_in, gisO_in, ex_some, List.getElem?_cons_succ, List.getElem?_cons_zero, List.length_cons, List.length_nil, List.set_cons_succ, List.set_cons_zero, Nat.reduceLT, va_up_eq, va_up_nl, t0', pW_15]
    have hSh : ∀ c, c < K → kr (5 * c + 4) = nI (pSh nw c) := fun c hc => (rk c hc 4 (by omega)).trans (pSh_at hR hc)
    refine c_plan hT hK hN (p_wk hR) hSh ?_
    intro vk2 vs2 vc2
    have h64 := gp2_64 hN
    have hco : ∀ t, t < N → (fun t => ts (3 * t + 2)) t = nI (pCs nw t) := fun t ht => (rt t ht 2 (by omega)).trans (pCs_at hR ht)
    have hd := pdp_ok (V := pvs (pst kr ts N) (mWe nw) 0 K) (cs := pCs nw) pCs_9 hN (co := fun t => ts (3 * t + 2)) (sh := pSh nw) (K := K) (psh_600 hK) hco (2 ^ N) 0 (rp, nt) (by omega) (fun q h1 h2 => absurd h1 (by omega))
    have hm := p_or hR
    generalize pdp (pvs (pst kr ts N) (mWe nw) 0 K) (fun t => ts (3 * t + 2)) (pSh nw) K N 0 (2 ^ N) (rp, nt) = s at hd ⊢
    have hpos : 0 < 2 ^ N := Nat.pow_pos (by omega)
    have hd0 := hd 0 hpos
    have fin : ∀ r, r = mor (mfo nw (-9) 0 (mWe nw) K (gpm N (List.range N)) (-9) []).1 (mfo nw (-9) 0 (mWe nw) K (gpm N (List.range N)) (-9) []).2 N a → ∃ y, some (Value.int r) = some (.int y) ∧ gisO 6 ((pW w vk2 vs2 vc2 s.1 s.2) 24) = true ∧ gEv (gT X) 171 0 [.ref 24, .int a, .null] [] n k (pW w vk2 vs2 vc2 s.1 s.2) (fun v2 n2 k2 w2 => v2 = some (.int y) ∧ LI w2 n2 k2) := by
      intro r hr
      refine ⟨_, rfl, ?_⟩
      obtain ⟨rd, tx, pz, tk, ta, va, fa, it, al, ln, fz, fb, be, fo, fm, io, hw, ht, hF⟩ := RM_pW (vk := vk2) (vs := vs2) (vc := vc2) (rp := s.1) (nt := s.2) hM; refine ⟨by rw [hw]; rfl, ?_⟩; rw [hw]
      refine c6_order hN r31 hK r0 (p_wm hR) q ?_
      intro al be
      exact ⟨by rw [hr], LI_mk (RC_pW hC) ht hF⟩
    unfold mor at fin
    simp only [eX5_order_18, eX5_order_18b, eX5_order_18c, eX5_order_18d, eX5_order_19, eX5_order_20, eX5_order_21, Option.toList_some, Option.toList_none, List.cons_append, List.nil_append, gcat_nil, gcat_cons, cat_int, cat_ref, cat_null, cat_ret, cat_long, grc_ref, narZ0, narZ1, true_and, and_true, decide_true, Nat.reduceAdd, Nat.reduceLeDiff, if_true, if_false, eq_self, gfld_in, gobj_in, garr_in, garq_in, glen_in, gisO_in, ex_some, List.getElem?_cons_succ, List.getElem?_cons_zero, List.length_cons, List.length_nil, List.set_cons_succ, List.set_cons_zero, Nat.reduceLT, va_up_eq, va_up_nl]
    by_cases q1 : a = -1
    · simp only [q1, not_true_eq_false, eX5_order_30, eX5_order_31, eX5_order_46, Option.toList_some, Option.toList_none, List.cons_append, List.nil_append, gcat_nil, gcat_cons, cat_int, cat_ref, cat_null, cat_ret, cat_long, grc_ref, narZ0, narZ1, true_and, and_true, decide_true, Nat.reduceAdd, Nat.reduceLeDiff, if_true, if_false, eq_self, gfld_in, gobj_in, garr_in, garq_in, glen_in, gisO_in, ex_some, List.getElem?_cons_succ, List.getElem?_cons_zero, List.length_cons, List.length_nil, List.set_cons_succ, List.set_cons_zero, Nat.reduceLT, va_up_eq, va_up_nl]
      rw [q1] at fin
      refine fin _ ?_
      rw [if_pos (Or.inr rfl)]
      cases hb : bB (pvs (pst kr ts N) (mWe nw) 0 K) (pCs nw) (fun p => psh (pSh nw) (vkf (pvs (pst kr ts N) (mWe nw) 0 K) p 0) 0 K 0) N 0 with
      | none =>
        rw [hb] at hm hd0
        exact (show s.1 0 = -9 from hd0).trans (show _ = (-9 : Int32) from hm).symm
      | some e =>
        rw [hb] at hm hd0
        exact hd0.1.trans hm.1.symm
    · simp only [q1, not_false_eq_true, eX5_order_24, eX5_order_25, eX5_order_27, Option.toList_some, Option.toList_none, List.cons_append, List.nil_append, gcat_nil, gcat_cons, cat_int, cat_ref, cat_null, cat_ret, cat_long, grc_ref, narZ0, narZ1, true_and, and_true, decide_true, Nat.reduceAdd, Nat.reduceLeDiff, if_true, if_false, eq_self, gfld_in, gobj_in, garr_in, garq_in, glen_in, gisO_in, ex_some, List.getElem?_cons_succ, List.getElem?_cons_zero, List.length_cons, List.length_nil, List.set_cons_succ, List.set_cons_zero, Nat.reduceLT, va_up_eq, va_up_nl]
      cases hb : bB (pvs (pst kr ts N) (mWe nw) 0 K) (pCs nw) (fun p => psh (pSh nw) (vkf (pvs (pst kr ts N) (mWe nw) 0 K) p 0) 0 K 0) N 0 with
      | none =>
        rw [hb] at hm hd0
        have e1 : s.1 0 = -9 := hd0
        have e2 : (mfo nw (-9) 0 (mWe nw) K (gpm N (List.range N)) (-9) []).1 = -9 := hm
        simp only [e1, not_true_eq_false, eX5_order_30, eX5_order_31, eX5_order_46, Option.toList_some, Option.toList_none, List.cons_append, List.nil_append, gcat_nil, gcat_cons, cat_int, cat_ref, cat_null, cat_ret, cat_long, grc_ref, narZ0, narZ1, true_and, and_true, decide_true, Nat.reduceAdd, Nat.reduceLeDiff, if_true, if_false, eq_self, gfld_in, gobj_in, garr_in, garq_in, glen_in, gisO_in, ex_some, List.getElem?_cons_succ, List.getElem?_cons_zero, List.length_cons, List.length_nil, List.set_cons_succ, List.set_cons_zero, Nat.reduceLT, va_up_eq, va_up_nl]
        exact fin _ (by rw [if_pos (Or.inl e2), e2])
      | some e =>
        rw [hb] at hm hd0
        obtain ⟨m1, m2, m3⟩ := hm
        have hn9 : ¬ nI e.1 = -9 := nI_m9 m2
        have hlen : e.2.length = N := by
          have := (bB_bd (N := N) pCs_9 (psh_600 hK) hN hb).2
          rw [lcp_0 N (by omega), List.length_range] at this
          exact this
        simp only [hd0.1, hn9, not_false_eq_true, eX5_order_34, eX5_order_35, eX5_order_38, eX5_order_39, eX5_order_42, eX5_order_43, Option.toList_some, Option.toList_none, List.cons_append, List.nil_append, gcat_nil, gcat_cons, cat_int, cat_ref, cat_null, cat_ret, cat_long, grc_ref, narZ0, narZ1, true_and, and_true, decide_true, Nat.reduceAdd, Nat.reduceLeDiff, if_true, if_false, eq_self, gfld_in, gobj_in, garr_in, garq_in, glen_in, gisO_in, ex_some, List.getElem?_cons_succ, List.getElem?_cons_zero, List.length_cons, List.length_nil, List.set_cons_succ, List.set_cons_zero, Nat.reduceLT, va_up_eq, va_up_nl, t0', pW_15]
        have e2 : ¬ ((mfo nw (-9) 0 (mWe nw) K (gpm N (List.range N)) (-9) []).1 = -9 ∨ a = -1) := by
          rintro (z | z)
          · rw [m1] at z; exact hn9 z
          · exact q1 z
        rw [if_neg e2] at fin
        by_cases q3 : 0 ≤ a ∧ a < nI N
        · obtain ⟨i, hi, hi2⟩ : ∃ i, a = nI i ∧ i < N := by
            rcases pk_ix a (n := N) (by omega) with z | z | ⟨j, hj, e⟩
            · exact absurd q3.1 (Int32.not_le.mpr z)
            · exact absurd q3.2 (Int32.not_lt.mpr z)
            · exact ⟨j, e, hj⟩
          subst hi
          have path : ∀ j, j ≤ i → ppl s.2 (fun q => (s.2 q).toNatClampNeg) j 0 < 2 ^ N ∧ s.2 (ppl s.2 (fun q => (s.2 q).toNatClampNeg) j 0) = nI ((s.2 (ppl s.2 (fun q => (s.2 q).toNatClampNeg) j 0)).toNatClampNeg) ∧ (s.2 (ppl s.2 (fun q => (s.2 q).toNatClampNeg) j 0)).toNatClampNeg < N ∧ (s.2 (ppl s.2 (fun q => (s.2 q).toNatClampNeg) j 0)).toNatClampNeg = e.2.getD j 0 := by
            intro j hj
            obtain ⟨g1, g2, g3⟩ := ppl_at (N := N) pCs_9 (psh_600 hK) hN hd j 0 e.1 e.2 hb (by omega) hpos
            rw [g2, nI_clamp (by omega)]
            exact ⟨g1, rfl, g3, rfl⟩
          rw [c_placed2 (Z := fun q => (s.2 q).toNatClampNeg) hT hN hi2 (fun j hj => ⟨(path j hj).1, (path j hj).2.1, (path j hj).2.2.1⟩)]
          simp only [eX5_order_46, Option.toList_some, Option.toList_none, List.cons_append, List.nil_append, gcat_nil, gcat_cons, cat_int, cat_ref, cat_null, cat_ret, cat_long, grc_ref, narZ0, narZ1, true_and, and_true, decide_true, Nat.reduceAdd, Nat.reduceLeDiff, if_true, if_false, eq_self, gfld_in, gobj_in, garr_in, garq_in, glen_in, gisO_in, ex_some, List.getElem?_cons_succ, List.getElem?_cons_zero, List.length_cons, List.length_nil, List.set_cons_succ, List.set_cons_zero, Nat.reduceLT, va_up_eq, va_up_nl]
          refine fin _ ?_
          rw [if_pos q3.2, nI_clamp (by omega), m3, (path i (Nat.le_refl _)).2.2.2]
        · rw [c_placed_out hT q3]
          simp only [eX5_order_46, Option.toList_some, Option.toList_none, List.cons_append, List.nil_append, gcat_nil, gcat_cons, cat_int, cat_ref, cat_null, cat_ret, cat_long, grc_ref, narZ0, narZ1, true_and, and_true, decide_true, Nat.reduceAdd, Nat.reduceLeDiff, if_true, if_false, eq_self, gfld_in, gobj_in, garr_in, garq_in, glen_in, gisO_in, ex_some, List.getElem?_cons_succ, List.getElem?_cons_zero, List.length_cons, List.length_nil, List.set_cons_succ, List.set_cons_zero, Nat.reduceLT, va_up_eq, va_up_nl]
          refine fin _ ?_
          rw [if_neg]
          intro z
          refine q3 ⟨?_, z⟩
          have h1 := Int32.le_iff_toInt_le.mp (Int32.not_lt.mp q)
          have h2 : (-1 : Int32).toInt = -1 := by decide
          have h3 : a.toInt ≠ -1 := fun y => q1 (Int32.toInt_inj.mp (y.trans h2.symm))
          rw [Int32.le_iff_toInt_le]
          have h4 : (0 : Int32).toInt = 0 := by decide
          omega
end PC
