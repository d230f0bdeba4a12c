/-! SETS AS NUMBERS -/
theorem nI_or (a b : Nat) : nI a ||| nI b = nI (a ||| b) := by
  rw [← Int32.toBitVec_inj, Int32.toBitVec_or]
  exact (BitVec.ofNat_or).symm
theorem nI_and (a b : Nat) : nI a &&& nI b = nI (a &&& b) := by
  rw [← Int32.toBitVec_inj, Int32.toBitVec_and]
  exact (BitVec.ofNat_and).symm
theorem nI_shl : ∀ t, t < 8 → (1 : Int32) <<< (nI t &&& 31) = nI (2 ^ t) := by decide +kernel
theorem nI_bit : ∀ a, a < 128 → ∀ t, t < 8 → ((nI a >>> (nI t &&& 31)) &&& 1 = 1 ↔ a.testBit t = true) ∧ ((nI a >>> (nI t &&& 31)) &&& 1 = 0 ↔ a.testBit t = false) := by decide +kernel
abbrev pone (a : Nat) : Prop := a &&& (a - 1) = 0
theorem nI_one : ∀ a, a < 128 → (nI a &&& (nI a - 1) = 0 ↔ pone a) := by decide +kernel
theorem pone_iff : ∀ a, a < 128 → (pone a ↔ ∀ i, i < 7 → ∀ j, j < 7 → a.testBit i = true → a.testBit j = true → i = j) := by decide +kernel
theorem or_lt {a b i : Nat} (ha : a < 2 ^ i) (hb : b < 2 ^ i) : a ||| b < 2 ^ i := Nat.or_lt_two_pow ha hb
/-- the set of those below N of which p holds -/
def bset (p : Nat → Prop) [DecidablePred p] : Nat → Nat → Nat → Nat := gfor (fun j a => if p j then a ||| 2 ^ j else a)
theorem bset_bit (p : Nat → Prop) [DecidablePred p] : ∀ (D j a i : Nat), (bset p j D a).testBit i = (a.testBit i || decide (j ≤ i ∧ i < j + D ∧ p i)) := by
  intro D
  induction D with
  | zero => intro j a i; simp [bset, gfor]; omega
  | succ D ih =>
    intro j a i
    have e : bset p j (D + 1) a = bset p (j + 1) D (if p j then a ||| 2 ^ j else a) := rfl
    rw [e, ih]
    by_cases q : p j
    · rw [if_pos q, Nat.testBit_or, Nat.testBit_two_pow]
      by_cases h : j = i
      · subst h
        have : decide (j ≤ j ∧ j < j + (D + 1) ∧ p j) = true := by simp [q]
        rw [this]; simp
      · have : decide (j + 1 ≤ i ∧ i < j + 1 + D ∧ p i) = decide (j ≤ i ∧ i < j + (D + 1) ∧ p i) := decide_eq_decide.mpr (by constructor <;> (rintro ⟨h1, h2, h3⟩; exact ⟨by omega, by omega, h3⟩))
        rw [this]; simp [h]
    · rw [if_neg q]
      have : decide (j + 1 ≤ i ∧ i < j + 1 + D ∧ p i) = decide (j ≤ i ∧ i < j + (D + 1) ∧ p i) := decide_eq_decide.mpr (by
        constructor
        · rintro ⟨h1, h2, h3⟩; exact ⟨by omega, by omega, h3⟩
        · rintro ⟨h1, h2, h3⟩
          have : i ≠ j := fun z => q (z ▸ h3)
          exact ⟨by omega, by omega, h3⟩)
      rw [this]
theorem bset_lt (p : Nat → Prop) [DecidablePred p] {m : Nat} : ∀ (D j a : Nat), j + D ≤ m → a < 2 ^ m → bset p j D a < 2 ^ m := by
  intro D
  induction D with
  | zero => intro j a _ h; exact h
  | succ D ih =>
    intro j a hj h
    have e : bset p j (D + 1) a = bset p (j + 1) D (if p j then a ||| 2 ^ j else a) := rfl
    rw [e]
    refine ih (j + 1) _ (by omega) ?_
    by_cases q : p j
    · rw [if_pos q]; exact or_lt h (Nat.pow_lt_pow_right (by omega) (by omega))
    · rw [if_neg q]; exact h
/-- what a set's row of bits is, as the machines write it -/
theorem bset_nI (p : Nat → Prop) [DecidablePred p] : ∀ (D j a : Nat), j + D ≤ 7 → gfor (fun j (a : Int32) => if p j then a ||| (1 <<< (nI j &&& 31)) else a) j D (nI a) = nI (bset p j D a) := by
  intro D
  induction D with
  | zero => intro j a _; rfl
  | succ D ih =>
    intro j a hj
    have e : bset p j (D + 1) a = bset p (j + 1) D (if p j then a ||| 2 ^ j else a) := rfl
    rw [e, gfor]
    by_cases q : p j
    · rw [if_pos q, if_pos q, nI_shl j (by omega), nI_or]
      exact ih (j + 1) _ (by omega)
    · rw [if_neg q, if_neg q]
      exact ih (j + 1) _ (by omega)
theorem gst_nI {ts : Nat → Int32} {N : Nat} (hN : N ≤ 6) {d v e : Int32} : gst ts N d v e = nI (bset (fun j => gfall (ts (3 * j)) (ts (3 * j + 1)) 0 d v e = true) 0 N 0) := by
  unfold gst
  have := bset_nI (fun j => gfall (ts (3 * j)) (ts (3 * j + 1)) 0 d v e = true) N 0 0 (by omega)
  rw [nI_0] at this
  exact this
