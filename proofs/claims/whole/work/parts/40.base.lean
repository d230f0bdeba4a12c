/-! BASE: rows for simp -/
theorem cat_int {x : Int32} : (Value.int x).category = 1 := rfl
theorem cat_long {x : Int64} : (Value.long x).category = 2 := rfl
theorem cat_ref {x : Nat} : (Value.ref x).category = 1 := rfl
theorem cat_null : Value.null.category = 1 := rfl
theorem cat_ret {x : Nat} : (Value.retAddr x).category = 1 := rfl
theorem gcat_nil : gcat [] = 0 := rfl
theorem gcat_cons {v : Value} {l : List Value} : gcat (v :: l) = v.category + gcat l := rfl
def gisO (c : Nat) : gE → Bool
  | .inr (ci, _) => ci == c || c == 1999
  | .inl _ => false
theorem gisO_in {c : Nat} {fs : List Value} : gisO c (.inr (c, fs)) = true := by simp [gisO]
theorem grc_ref {w : gH} {c a : Nat} {l : List Value} : grc w (c + 1) (.ref a :: l) = gisO c (w a) := by
  unfold grc gisO
  dsimp only
  cases w a <;> rfl
theorem narZ0 : (narrow .boolean (.int 0) = .int 0) = True := by simp [narrow]
theorem narZ1 : (narrow .boolean (.int 1) = .int 1) = True := by simp [narrow]
theorem gT0 : (0 : Nat) = 0 := rfl
theorem gfld_in {c k : Nat} {fs : List Value} : gfld c k (.inr (c, fs)) = fs[k]? := by simp [gfld]
theorem gobj_in {c : Nat} {fs : List Value} : gobj c (.inr (c, fs)) = some fs := by simp [gobj]
theorem garr_in {ty : FieldType} {m : Nat} {f : Nat → Int32} : garr ty (.inl (ty, m, .inl f)) = some (m, f) := by simp [garr]
theorem garq_in {ty : FieldType} {m : Nat} {f : Nat → Option Nat} : garq ty (.inl (ty, m, .inr (.inr (.inr (.inr f))))) = some (m, f) := by simp [garq]
theorem glen_in {ty : FieldType} {m : Nat} {z : (Nat → Int32) ⊕ (Nat → Int64) ⊕ (Nat → UInt32) ⊕ (Nat → UInt64) ⊕ (Nat → Option Nat)} : glen ty (.inl (ty, m, z)) = some m := by simp [glen]
theorem ex_some {α : Type} {a : α} {p : α → Prop} : (∃ v, some a = some v ∧ p v) ↔ p a := ⟨fun ⟨v, h1, h2⟩ => by cases h1; exact h2, fun h => ⟨a, rfl, h⟩⟩
theorem va_up_eq {w : gH} {a : Nat} {e : gE} : va_up w a e a = e := by simp [va_up]
theorem va_up_nl {w : gH} {a b : Nat} {e : gE} (h : Nat.beq b a = false) : va_up w a e b = w b := by
  have : ¬ b = a := fun z => by subst z; rw [Nat.beq_refl] at h; cases h
  simp [va_up, this]
/-- a truth as an int -/
def gb (p : Prop) [Decidable p] : Int32 := if p then 1 else 0
theorem gb_eq {p q : Prop} [Decidable p] [Decidable q] (h : p ↔ q) : gb p = gb q := by
  unfold gb
  by_cases hp : p
  · rw [if_pos hp, if_pos (h.mp hp)]
  · rw [if_neg hp, if_neg (fun z => hp (h.mpr z))]
theorem gb_0 {p : Prop} [Decidable p] : gb p = 0 ↔ ¬ p := by
  unfold gb
  by_cases hp : p <;> simp [hp]
theorem gb_t {p : Prop} [Decidable p] (h : p) : gb p = 1 := if_pos h
theorem gb_f {p : Prop} [Decidable p] (h : ¬ p) : gb p = 0 := if_neg h
/-- the first from j on, of d at most -/
def gfst (p : Nat → Prop) [DecidablePred p] : Nat → Nat → Nat
  | j, 0 => j
  | j, d + 1 => if p j then j else gfst p (j + 1) d
/-- a loop from j on, d times -/
def gfor {α : Type} (f : Nat → α → α) : Nat → Nat → α → α
  | _, 0, a => a
  | j, d + 1, a => gfor f (j + 1) d (f j a)
section C0
variable {X : gX} {n k : Nat} {w : gH} {Q : Option Value → Nat → Nat → gH → Prop}
theorem c_within {a b c : Int32} : gEv (gT X) 110 0 [.int a, .int b, .int c] [] n k w Q ↔ Q (some (.int (gb (b ≤ a ∧ a ≤ c)))) n k w := by
  simp only [eX5_within_0, eX5_within_1, eX5_within_2, eX5_within_5, eX5_within_6, eX5_within_7, eX5_within_10, eX5_within_11, eX5_within_14, eX5_within_15, Option.toList_some, Option.toList_none, List.cons_append, List.nil_append, gcat_nil, gcat_cons, cat_int, cat_ref, cat_null, cat_ret, cat_long, grc_ref, narZ0, narZ1, true_and, and_true, decide_true, Nat.reduceAdd, Nat.reduceLeDiff, if_true, if_false, eq_self, gfld_in, gobj_in, garr_in, garq_in, glen_in, gisO_in, ex_some, List.getElem?_cons_succ, List.getElem?_cons_zero, List.length_cons, List.length_nil, List.set_cons_succ, List.set_cons_zero, Nat.reduceLT, va_up_eq, va_up_nl]
  by_cases h1 : a < b
  · rw [if_pos h1, gb_f (fun z => absurd z.1 (Int32.not_le.mpr h1))]
  · rw [if_neg h1]
    by_cases h2 : c < a
    · rw [if_pos h2, gb_f (fun z => absurd z.2 (Int32.not_le.mpr h2))]
    · rw [if_neg h2, gb_t ⟨Int32.not_lt.mp h1, Int32.not_lt.mp h2⟩]
theorem c_isOneAtMost {a : Int32} : gEv (gT X) 114 0 [.int a] [] n k w Q ↔ Q (some (.int (gb (a &&& (a - 1) = 0)))) n k w := by
  simp only [eX5_isOneAtMost_0, eX5_isOneAtMost_1, eX5_isOneAtMost_2, eX5_isOneAtMost_3, eX5_isOneAtMost_4, eX5_isOneAtMost_5, eX5_isOneAtMost_8, eX5_isOneAtMost_9, eX5_isOneAtMost_12, eX5_isOneAtMost_13, Option.toList_some, Option.toList_none, List.cons_append, List.nil_append, gcat_nil, gcat_cons, cat_int, cat_ref, cat_null, cat_ret, cat_long, grc_ref, narZ0, narZ1, true_and, and_true, decide_true, Nat.reduceAdd, Nat.reduceLeDiff, if_true, if_false, eq_self, gfld_in, gobj_in, garr_in, garq_in, glen_in, gisO_in, ex_some, List.getElem?_cons_succ, List.getElem?_cons_zero, List.length_cons, List.length_nil, List.set_cons_succ, List.set_cons_zero, Nat.reduceLT, va_up_eq, va_up_nl]
  by_cases h1 : a &&& (a - 1) = 0 <;> simp [gb, h1]
end C0
