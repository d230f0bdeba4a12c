/-! WHAT BOTH SEE ALIKE: sets of bins -/
/-- the set of the bins of a kind's coins -/
def bsN (bc : Nat → Nat) : Nat → Nat → Nat → Nat := gfor (fun x b => b ||| 2 ^ bc x)
theorem bsN_lt (bc : Nat → Nat) (hb : ∀ x, bc x ≤ 6) : ∀ (D x a : Nat), a < 128 → bsN bc x D a < 128 := by
  intro D
  induction D with
  | zero => intro x a h; exact h
  | succ D ih =>
    intro x a h
    have e : bsN bc x (D + 1) a = bsN bc (x + 1) D (a ||| 2 ^ bc x) := rfl
    rw [e]
    exact ih _ _ (or_lt (i := 7) h (Nat.pow_lt_pow_right (by omega) (by have := hb x; omega)))
theorem bsN_nI (bc : Nat → Nat) (hb : ∀ x, bc x ≤ 6) : ∀ (D x a : Nat), gfor (fun x (b : Int32) => b ||| (1 <<< (nI (bc x) &&& 31))) x D (nI a) = nI (bsN bc x D a) := by
  intro D
  induction D with
  | zero => intro x a; rfl
  | succ D ih =>
    intro x a
    have e : bsN bc x (D + 1) a = bsN bc (x + 1) D (a ||| 2 ^ bc x) := rfl
    rw [e, gfor, nI_shl _ (by have := hb x; omega), nI_or]
    exact ih _ _
theorem bsN_bit (bc : Nat → Nat) : ∀ (D x a b : Nat), (bsN bc x D a).testBit b = true ↔ (a.testBit b = true ∨ ∃ y, x ≤ y ∧ y < x + D ∧ bc y = b) := by
  intro D
  induction D with
  | zero =>
    intro x a b
    constructor
    · intro h; exact Or.inl h
    · rintro (h | ⟨y, h1, h2, _⟩)
      · exact h
      · omega
  | succ D ih =>
    intro x a b
    have e : bsN bc x (D + 1) a = bsN bc (x + 1) D (a ||| 2 ^ bc x) := rfl
    rw [e, ih, Nat.testBit_or, Nat.testBit_two_pow]
    constructor
    · rintro (h | ⟨y, h1, h2, h3⟩)
      · simp only [Bool.or_eq_true, decide_eq_true_eq] at h
        rcases h with h | h
        · exact Or.inl h
        · exact Or.inr ⟨x, by omega, by omega, h⟩
      · exact Or.inr ⟨y, by omega, by omega, h3⟩
    · rintro (h | ⟨y, h1, h2, h3⟩)
      · left; rw [h]; rfl
      · by_cases q : y = x
        · left; subst q; simp [h3]
        · exact Or.inr ⟨y, by omega, by omega, h3⟩
theorem mbs_nI {bc : Nat → Nat} (hb : ∀ x, bc x ≤ 6) {wr : Nat} : mbs bc wr = nI (bsN bc 0 (wr + 1) 0) := by
  unfold mbs
  have := bsN_nI bc hb (wr + 1) 0 0
  rw [nI_0] at this
  exact this
theorem and1 (x : Int32) : x &&& 1 = 0 ∨ x &&& 1 = 1 := by
  have h : ∀ y : BitVec 32, y &&& 1#32 = 0#32 ∨ y &&& 1#32 = 1#32 := by
    intro y
    by_cases q : y.getLsbD 0 = true
    · right
      apply BitVec.eq_of_getLsbD_eq
      intro i hi
      rw [BitVec.getLsbD_and]
      by_cases z : i = 0
      · subst z; rw [q]; rfl
      · have e : (1#32).getLsbD i = false := by
          rw [BitVec.getLsbD_one]; simp [z]
        rw [e]; simp
    · left
      apply BitVec.eq_of_getLsbD_eq
      intro i hi
      rw [BitVec.getLsbD_and]
      by_cases z : i = 0
      · subst z
        have q' : y.getLsbD 0 = false := by
          cases h : y.getLsbD 0 with
          | true => exact absurd h q
          | false => rfl
        rw [q']; rfl
      · have e : (1#32).getLsbD i = false := by
          rw [BitVec.getLsbD_one]; simp [z]
        rw [e]; simp
  rcases h x.toBitVec with h | h
  · left; exact Int32.toBitVec_inj.mp (by rw [Int32.toBitVec_and]; exact h)
  · right; exact Int32.toBitVec_inj.mp (by rw [Int32.toBitVec_and]; exact h)
theorem or0 (x : Int32) : x ||| 0 = x := by
  apply Int32.toBitVec_inj.mp
  rw [Int32.toBitVec_or]
  exact BitVec.or_zero
theorem gks_mks {bs : Nat → Int32} {b : Int32} {K : Nat} : gks bs b K = mks bs b K := by
  unfold gks mks
  refine gfor_congr _ _ _ (fun i _ _ a => ?_)
  rcases and1 (bs i >>> (b &&& 31)) with h | h
  · rw [if_pos h, if_neg (by rw [h]; decide), or0]
  · rw [if_neg (by rw [h]; decide), if_pos h]
theorem one_mon : ∀ m, m < 128 → ((nI m &&& (nI m - 1) = 0) ↔ mon (nI m) ≤ 1) := by decide +kernel
theorem gdb_mdb {bs : Nat → Int32} {K : Nat} (h : ∀ c, c < K → ∃ m, m < 128 ∧ bs c = nI m) : gdb bs K = mdb bs K := by
  unfold gdb mdb
  refine gfor_congr _ _ _ (fun i _ hi a => ?_)
  obtain ⟨m, hm, e⟩ := h i (by omega)
  have h1 := one_mon m hm
  rw [← e] at h1
  by_cases q : bs i &&& (bs i - 1) = 0
  · rw [if_pos q, if_pos (h1.mp q), or0]
  · rw [if_neg q, if_neg (fun z => q (h1.mpr z))]
theorem and_0 {a b : Nat} (ha : a < 128) : (nI a &&& nI b = 0) ↔ a &&& b = 0 := by
  rw [nI_and, ← nI_0]
  exact nI_eq (by have : a &&& b ≤ a := Nat.and_le_left; omega) (by omega)
/-- sets that share nothing, one after another -/
def djN (bs : Nat → Nat) : Nat → Nat → Nat → Prop
  | _, 0, _ => True
  | j, D + 1, had => had &&& bs j = 0 ∧ djN bs (j + 1) D (had ||| bs j)
def unN (bs : Nat → Nat) : Nat → Nat → Nat → Nat := gfor (fun j had => had ||| bs j)
theorem unN_lt {bs : Nat → Nat} : ∀ (D j a : Nat), (∀ i, j ≤ i → i < j + D → bs i < 128) → a < 128 → unN bs j D a < 128 := by
  intro D
  induction D with
  | zero => intro j a _ h; exact h
  | succ D ih =>
    intro j a hb h
    have e : unN bs j (D + 1) a = unN bs (j + 1) D (a ||| bs j) := rfl
    rw [e]
    exact ih _ _ (fun i h1 h2 => hb i (by omega) (by omega)) (or_lt (i := 7) h (hb j (by omega) (by omega)))
theorem nI_n9 {m : Nat} (h : m < 1000) : ¬ nI m = -9 := fun z => by
  have h1 := congrArg Int32.toInt z
  rw [nI_toInt (by omega)] at h1
  have h2 : (-9 : Int32).toInt = -9 := by decide
  omega
theorem gab_dj {bs : Nat → Int32} {bn : Nat → Nat} {left : Int32} : ∀ (D j a : Nat), (∀ i, j ≤ i → i < j + D → (if nI i = left then (0 : Int32) else bs i) = nI (bn i) ∧ bn i < 128) → a < 128 → (djN bn j D a ∧ gab bs left j D (nI a) = nI (unN bn j D a)) ∨ (¬ djN bn j D a ∧ gab bs left j D (nI a) = -9) := by
  intro D
  induction D with
  | zero => intro j a _ _; exact Or.inl ⟨trivial, rfl⟩
  | succ D ih =>
    intro j a hb ha
    obtain ⟨e1, e2⟩ := hb j (by omega) (by omega)
    have e : unN bn j (D + 1) a = unN bn (j + 1) D (a ||| bn j) := rfl
    rw [gab, e1, e, djN, nI_or]
    by_cases q : a &&& bn j = 0
    · rw [if_pos ((and_0 ha).mpr q)]
      rcases ih (j + 1) (a ||| bn j) (fun i h1 h2 => hb i (by omega) (by omega)) (or_lt (i := 7) ha e2) with ⟨h1, h2⟩ | ⟨h1, h2⟩
      · exact Or.inl ⟨⟨q, h1⟩, h2⟩
      · exact Or.inr ⟨fun z => h1 z.2, h2⟩
    · rw [if_neg (fun z => q ((and_0 ha).mp z))]
      exact Or.inr ⟨fun z => q z.1, rfl⟩
theorem maa_dj {bs : Nat → Int32} {bn : Nat → Nat} : ∀ (D j a : Nat) (are : Int32), (∀ i, j ≤ i → i < j + D → bs i = nI (bn i) ∧ bn i < 128) → a < 128 → (¬ maa bs j D (nI a) are = 0 ↔ (¬ are = 0 ∧ djN bn j D a)) := by
  intro D
  induction D with
  | zero => intro j a are _ _; exact ⟨fun h => ⟨h, trivial⟩, fun h => h.1⟩
  | succ D ih =>
    intro j a are hb ha
    obtain ⟨e1, e2⟩ := hb j (by omega) (by omega)
    rw [maa, e1, nI_or, ih (j + 1) (a ||| bn j) _ (fun i h1 h2 => hb i (by omega) (by omega)) (or_lt (i := 7) ha e2), djN]
    by_cases q0 : are = 0
    · rw [if_pos q0]
      exact ⟨fun h => absurd rfl h.1, fun h => absurd q0 h.1⟩
    · rw [if_neg q0]
      by_cases q : a &&& bn j = 0
      · rw [if_pos ((and_0 ha).mpr q)]
        exact ⟨fun h => ⟨q0, q, h.2⟩, fun h => ⟨by decide, h.2.2⟩⟩
      · rw [if_neg (fun z => q ((and_0 ha).mp z))]
        exact ⟨fun h => absurd rfl h.1, fun h => absurd h.2.1 q⟩
