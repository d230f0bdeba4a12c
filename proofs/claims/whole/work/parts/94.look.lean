/-! ASKED: the look, the greatest toll, the wear that is borne -/
theorem mmb_bd (bc : Nat → Nat) (l : List Nat) : ∀ (D j i : Nat) (f : Nat → Int32) (m : Int32), i + D < 1000 → (∀ b, ∃ t, t ≤ i ∧ f b = nI t) → (∃ t, t ≤ i ∧ m = nI t) → ∃ t, t ≤ i + D ∧ (mmb bc l j D (f, m)).2 = nI t := by
  intro D
  induction D with
  | zero => intro j i f m _ _ h; exact h
  | succ D ih =>
    intro j i f m hi hf hm
    obtain ⟨tb, hb1, hb2⟩ := hf (bc (l.getD j 0))
    obtain ⟨tm, hm1, hm2⟩ := hm
    have e : mmb bc l j (D + 1) (f, m) = mmb bc l (j + 1) D (upd f (bc (l.getD j 0)) (f (bc (l.getD j 0)) + 1), if f (bc (l.getD j 0)) + 1 ≤ m then m else f (bc (l.getD j 0)) + 1) := rfl
    rw [e, hb2, nI_1, show i + (D + 1) = i + 1 + D by omega]
    refine ih (j + 1) (i + 1) _ _ (by omega) ?_ ?_
    · intro b
      unfold upd
      by_cases q : b = bc (l.getD j 0)
      · rw [if_pos q]; exact ⟨tb + 1, by omega, rfl⟩
      · rw [if_neg q]
        obtain ⟨t, h1, h2⟩ := hf b
        exact ⟨t, by omega, h2⟩
    · by_cases q : nI (tb + 1) ≤ m
      · rw [if_pos q]; exact ⟨tm, by omega, hm2⟩
      · rw [if_neg q]; exact ⟨tb + 1, by omega, rfl⟩
/-- both searches of the telling coin stand alike -/
def lkR (B : Nat) (p m : Int32 × Int32) : Prop := p.1 = m.1 ∧ ((m.1 = -9 ∧ m.2 = nI B) ∨ (¬ m.1 = -9 ∧ p.2 = m.2))
theorem lkx {mp mm : Nat → Nat → Int32} {B c : Nat} (hB : B < 1000) (hc : c < 6) (h : ∀ x, x < 10 → mp c x = mm c x ∧ ∃ t, t < B ∧ mm c x = nI t) : ∀ (D x : Nat) (p m : Int32 × Int32), x + D ≤ 10 → lkR B p m → lkR B (plx mp c x D p) (mlx mm c x D m) := by
  intro D
  induction D with
  | zero => intro x p m _ hR; exact hR
  | succ D ih =>
    intro x p m hx hR
    obtain ⟨e1, t, ht, e2⟩ := h x (by omega)
    have ep : plx mp c x (D + 1) p = plx mp c (x + 1) D (if p.1 = -9 ∨ mp c x < p.2 then (nI (10 * c + x), mp c x) else p) := rfl
    have em : mlx mm c x (D + 1) m = mlx mm c (x + 1) D (if mm c x < m.2 then (nI (10 * c + x), mm c x) else m) := rfl
    rw [ep, em]
    refine ih (x + 1) _ _ (by omega) ?_
    have n9 : ¬ nI (10 * c + x) = -9 := nI_n9 (by omega)
    obtain ⟨h1, h2 | h2⟩ := hR
    · have hlt : mm c x < m.2 := by rw [h2.2, e2]; exact nI_lt ht (by omega)
      rw [if_pos hlt, if_pos (Or.inl (h1.trans h2.1)), e1]
      exact ⟨rfl, Or.inr ⟨n9, rfl⟩⟩
    · by_cases q : mm c x < m.2
      · rw [if_pos q, if_pos (Or.inr (by rw [e1, h2.2]; exact q)), e1]
        exact ⟨rfl, Or.inr ⟨n9, rfl⟩⟩
      · have hn : ¬ (p.1 = -9 ∨ mp c x < p.2) := by
          rintro (z | z)
          · exact h2.1 (h1.symm.trans z)
          · rw [e1, h2.2] at z; exact q z
        rw [if_neg q, if_neg hn]
        exact ⟨h1, Or.inr h2⟩
theorem lkk {mp mm : Nat → Nat → Int32} {We : Nat → Nat} {B K : Nat} (hB : B < 1000) (hK : K ≤ 6) (hW : ∀ c, c < K → We c < 10) (h : ∀ c, c < K → ∀ x, x < 10 → mp c x = mm c x ∧ ∃ t, t < B ∧ mm c x = nI t) : ∀ (D c : Nat) (p m : Int32 × Int32), c + D ≤ K → lkR B p m → lkR B (plk mp We c D p) (mlk mm We c D m) := by
  intro D
  induction D with
  | zero => intro c p m _ hR; exact hR
  | succ D ih =>
    intro c p m hc hR
    have ep : plk mp We c (D + 1) p = plk mp We (c + 1) D (plx mp c 0 (We c + 1) p) := rfl
    have em : mlk mm We c (D + 1) m = mlk mm We (c + 1) D (mlx mm c 0 (We c + 1) m) := rfl
    rw [ep, em]
    have hw := hW c (by omega)
    exact ih (c + 1) _ _ (by omega) (lkx hB (by omega) (h c (by omega)) (We c + 1) 0 _ _ (by omega) hR)
/-- the greatest of what P tells, 0 at least -/
def imx (P : Int32 → Prop) (r : Int32) : Prop := (r = 0 ∨ P r) ∧ 0 ≤ r ∧ ∀ v, P v → v ≤ r
theorem imx_un {P P' : Int32 → Prop} {r r' : Int32} (h : imx P r) (h' : imx P' r') (e : ∀ v, P v ↔ P' v) : r = r' := by
  obtain ⟨a1, a2, a3⟩ := h
  obtain ⟨b1, b2, b3⟩ := h'
  refine Int32.le_antisymm ?_ ?_
  · rcases a1 with z | z
    · rw [z]; exact b2
    · exact b3 r ((e r).mp z)
  · rcases b1 with z | z
    · rw [z]; exact a2
    · exact a3 r' ((e r').mpr z)
theorem imx_in {P P' : Int32 → Prop} {r : Int32} (h : imx P r) (e : ∀ v, P' v ↔ P v) : imx P' r := ⟨h.1.imp id (fun z => (e r).mpr z), h.2.1, fun v z => h.2.2 v ((e v).mp z)⟩
theorem imx_up {P : Int32 → Prop} {r t : Int32} (h : imx P r) : imx (fun v => P v ∨ v = t) (if t ≤ r then r else t) := by
  obtain ⟨a1, a2, a3⟩ := h
  by_cases q : t ≤ r
  · rw [if_pos q]
    refine ⟨a1.imp id Or.inl, a2, ?_⟩
    rintro v (z | z)
    · exact a3 v z
    · rw [z]; exact q
  · rw [if_neg q]
    have q' := Int32.le_of_lt (Int32.not_le.mp q)
    refine ⟨Or.inr (Or.inr rfl), Int32.le_trans a2 q', ?_⟩
    rintro v (z | z)
    · exact Int32.le_trans (a3 v z) q'
    · rw [z]; exact Int32.le_refl _
theorem mto_imx {tl : Nat → Int32} : ∀ (D x : Nat) (P : Int32 → Prop) (m : Int32), imx P m → imx (fun v => P v ∨ ∃ y, x ≤ y ∧ y < x + D ∧ v = tl y) (gfor (fun x m => if tl x ≤ m then m else tl x) x D m) := by
  intro D
  induction D with
  | zero =>
    intro x P m h
    refine imx_in h (fun v => ⟨?_, Or.inl⟩)
    rintro (z | ⟨y, h1, h2, _⟩)
    · exact z
    · omega
  | succ D ih =>
    intro x P m h
    rw [gfor]
    refine imx_in (ih (x + 1) _ _ (imx_up (t := tl x) h)) (fun v => ⟨?_, ?_⟩)
    · rintro (z | ⟨y, h1, h2, h3⟩)
      · exact Or.inl (Or.inl z)
      · by_cases q : y = x
        · left; right; rw [h3, q]
        · exact Or.inr ⟨y, by omega, by omega, h3⟩
    · rintro ((z | z) | ⟨y, h1, h2, h3⟩)
      · exact Or.inl z
      · exact Or.inr ⟨x, by omega, by omega, z⟩
      · exact Or.inr ⟨y, by omega, by omega, h3⟩
theorem ggt_imx {T : Nat → Int32} {B : Nat → Prop} [DecidablePred B] : ∀ (D x : Nat) (P : Int32 → Prop) (m : Int32), imx P m → imx (fun v => P v ∨ ∃ y, x ≤ y ∧ y < x + D ∧ ¬ B y ∧ v = T y) (gfor (fun j a => if B j then a else (if a < T j then T j else a)) x D m) := by
  intro D
  induction D with
  | zero =>
    intro x P m h
    refine imx_in h (fun v => ⟨?_, Or.inl⟩)
    rintro (z | ⟨y, h1, h2, _⟩)
    · exact z
    · omega
  | succ D ih =>
    intro x P m h
    rw [gfor]
    by_cases qb : B x
    · rw [if_pos qb]
      refine imx_in (ih (x + 1) _ _ h) (fun v => ⟨?_, ?_⟩)
      · rintro (z | ⟨y, h1, h2, h3, h4⟩)
        · exact Or.inl z
        · by_cases q : y = x
          · rw [q] at h3; exact absurd qb h3
          · exact Or.inr ⟨y, by omega, by omega, h3, h4⟩
      · rintro (z | ⟨y, h1, h2, h3, h4⟩)
        · exact Or.inl z
        · exact Or.inr ⟨y, by omega, by omega, h3, h4⟩
    · rw [if_neg qb, max_sw]
      refine imx_in (ih (x + 1) _ _ (imx_up (t := T x) h)) (fun v => ⟨?_, ?_⟩)
      · rintro (z | ⟨y, h1, h2, h3, h4⟩)
        · exact Or.inl (Or.inl z)
        · by_cases q : y = x
          · left; right; rw [h4, q]
          · exact Or.inr ⟨y, by omega, by omega, h3, h4⟩
      · rintro ((z | z) | ⟨y, h1, h2, h3, h4⟩)
        · exact Or.inl z
        · exact Or.inr ⟨x, by omega, by omega, qb, z⟩
        · exact Or.inr ⟨y, by omega, by omega, h3, h4⟩
theorem imx_0 : imx (fun _ => False) 0 := ⟨Or.inl rfl, Int32.le_refl _, fun _ h => h.elim⟩
theorem djN_bit {bs : Nat → Nat} : ∀ (D j had : Nat), djN bs j D had ↔ ∀ b i, j ≤ i → i < j + D → (bs i).testBit b = true → had.testBit b = false ∧ ∀ i', j ≤ i' → i' < j + D → (bs i').testBit b = true → i' = i := by
  intro D
  induction D with
  | zero => intro j had; exact ⟨fun _ b i h1 h2 => by omega, fun _ => trivial⟩
  | succ D ih =>
    intro j had
    rw [djN, ih (j + 1) (had ||| bs j)]
    constructor
    · rintro ⟨h1, h2⟩ b i hi1 hi2 hb
      have h1b : had.testBit b = false ∨ (bs j).testBit b = false := by
        have := congrArg (fun z => z.testBit b) h1
        simp only [Nat.testBit_and, Nat.zero_testBit, Bool.and_eq_false_iff] at this
        exact this
      by_cases q : i = j
      · subst q
        refine ⟨?_, ?_⟩
        · rcases h1b with z | z
          · exact z
          · rw [hb] at z; cases z
        · intro i' g1 g2 g3
          by_cases q : i' = i
          · exact q
          · obtain ⟨y1, y2⟩ := h2 b i' (by omega) (by omega) g3
            rw [Nat.testBit_or, hb, Bool.or_true] at y1
            cases y1
      · obtain ⟨y1, y2⟩ := h2 b i (by omega) (by omega) hb
        rw [Nat.testBit_or, Bool.or_eq_false_iff] at y1
        refine ⟨y1.1, ?_⟩
        intro i' g1 g2 g3
        by_cases q : i' = j
        · rw [q, y1.2] at g3; cases g3
        · exact y2 i' (by omega) (by omega) g3
    · intro h
      refine ⟨?_, ?_⟩
      · apply Nat.eq_of_testBit_eq
        intro b
        rw [Nat.testBit_and, Nat.zero_testBit]
        cases hb : (bs j).testBit b with
        | false => simp
        | true => rw [(h b j (by omega) (by omega) hb).1]; rfl
      · intro b i hi1 hi2 hb
        obtain ⟨y1, y2⟩ := h b i (by omega) (by omega) hb
        refine ⟨?_, fun i' g1 g2 g3 => y2 i' (by omega) (by omega) g3⟩
        rw [Nat.testBit_or, y1, Bool.false_or]
        cases hj : (bs j).testBit b with
        | false => rfl
        | true => have := y2 j (by omega) (by omega) hj; omega
theorem unN_bit {bs : Nat → Nat} : ∀ (D j a b : Nat), (unN bs j D a).testBit b = true ↔ (a.testBit b = true ∨ ∃ i, j ≤ i ∧ i < j + D ∧ (bs i).testBit b = true) := by
  intro D
  induction D with
  | zero =>
    intro j a b
    refine ⟨Or.inl, ?_⟩
    rintro (h | ⟨i, h1, h2, _⟩)
    · exact h
    · omega
  | succ D ih =>
    intro j a b
    have e : unN bs j (D + 1) a = unN bs (j + 1) D (a ||| bs j) := rfl
    rw [e, ih, Nat.testBit_or, Bool.or_eq_true]
    constructor
    · rintro ((h | h) | ⟨i, h1, h2, h3⟩)
      · exact Or.inl h
      · exact Or.inr ⟨j, by omega, by omega, h⟩
      · exact Or.inr ⟨i, by omega, by omega, h3⟩
    · rintro (h | ⟨i, h1, h2, h3⟩)
      · exact Or.inl (Or.inl h)
      · by_cases q : i = j
        · left; right; rw [← q]; exact h3
        · exact Or.inr ⟨i, by omega, by omega, h3⟩
/-- a kind with another wear: apart from the others just if none of its coins falls where another's does -/
theorem dj_split {bn bx : Nat → Nat} {c K s : Nat} (hc : c < K) (hx : ∀ i, bx i = if i = c then s else bn i) : djN bx 0 K 0 ↔ (djN (fun i => if i = c then 0 else bn i) 0 K 0 ∧ ∀ b, s.testBit b = true → (unN (fun i => if i = c then 0 else bn i) 0 K 0).testBit b = false) := by
  have z0 : ∀ b, (0 : Nat).testBit b = false := Nat.zero_testBit
  rw [djN_bit, djN_bit]
  constructor
  · intro h
    refine ⟨?_, ?_⟩
    · intro b i h1 h2 h3
      refine ⟨z0 b, fun i' g1 g2 g3 => ?_⟩
      by_cases q : i = c
      · rw [if_pos q, z0] at h3; cases h3
      · by_cases q' : i' = c
        · rw [if_pos q', z0] at g3; cases g3
        · rw [if_neg q] at h3
          rw [if_neg q'] at g3
          exact (h b i h1 h2 (by rw [hx, if_neg q]; exact h3)).2 i' g1 g2 (by rw [hx, if_neg q']; exact g3)
    · intro b hb
      cases hu : (unN (fun i => if i = c then 0 else bn i) 0 K 0).testBit b with
      | false => rfl
      | true =>
        rcases (unN_bit K 0 0 b).mp hu with z | ⟨i, h1, h2, h3⟩
        · rw [z0] at z; cases z
        · by_cases q : i = c
          · rw [if_pos q, z0] at h3; cases h3
          · rw [if_neg q] at h3
            have := (h b c (by omega) (by omega) (by rw [hx, if_pos rfl]; exact hb)).2 i h1 h2 (by rw [hx, if_neg q]; exact h3)
            exact absurd this q
  · rintro ⟨h, hu⟩ b i h1 h2 h3
    refine ⟨z0 b, fun i' g1 g2 g3 => ?_⟩
    have other : ∀ i', i' < K → i' ≠ c → (bx i').testBit b = true → s.testBit b = true → False := by
      intro i' g2 q g3 hs
      rw [hx, if_neg q] at g3
      have h1 := (unN_bit (bs := fun i => if i = c then 0 else bn i) K 0 0 b).mpr (Or.inr ⟨i', by omega, by omega, by rw [if_neg q]; exact g3⟩)
      rw [hu b hs] at h1
      cases h1
    by_cases q : i = c
    · by_cases q' : i' = c
      · rw [q, q']
      · exact (other i' (by omega) q' g3 (by rw [hx, if_pos q] at h3; exact h3)).elim
    · by_cases q' : i' = c
      · exact (other i (by omega) q h3 (by rw [hx, if_pos q'] at g3; exact g3)).elim
      · rw [hx, if_neg q] at h3
        rw [hx, if_neg q'] at g3
        exact (h b i h1 h2 (by rw [if_neg q]; exact h3)).2 i' g1 g2 (by rw [if_neg q']; exact g3)
/-- once a coin falls wrong, no greater wear is borne -/
theorem br_stop {f : Nat → Prop} [DecidablePred f] : ∀ (D j : Nat) (m : Int32), (∀ x, j ≤ x → ¬ f x) → gfor (fun x m => if f x then nI x else m) j D m = m := by
  intro D
  induction D with
  | zero => intro j m _; rfl
  | succ D ih =>
    intro j m h
    rw [gfor, if_neg (h j (by omega))]
    exact ih (j + 1) m (fun x hx => h x (by omega))
theorem br_al {bc : Nat → Nat} {tk : Int32} {f : Nat → Prop} [DecidablePred f] (hf : ∀ x, f x ↔ ∀ y, y ≤ x → (tk >>> (nI (bc y) &&& 31)) &&& 1 = 0) : ∀ (D j : Nat) (m : Int32), (∀ y, y < j → (tk >>> (nI (bc y) &&& 31)) &&& 1 = 0) → gbr bc tk j D m = gfor (fun x m => if f x then nI x else m) j D m := by
  intro D
  induction D with
  | zero => intro j m _; rfl
  | succ D ih =>
    intro j m h
    rw [gbr]
    by_cases q : (tk >>> (nI (bc j) &&& 31)) &&& 1 = 0
    · have hj : ∀ y, y ≤ j → (tk >>> (nI (bc y) &&& 31)) &&& 1 = 0 := by
        intro y hy
        by_cases e : y = j
        · rw [e]; exact q
        · exact h y (by omega)
      rw [if_pos q, gfor, if_pos ((hf j).mpr hj)]
      exact ih (j + 1) _ (fun y hy => hj y (by omega))
    · rw [if_neg q]
      exact (br_stop (D + 1) j m (fun x hx z => q ((hf x).mp z j hx))).symm
