/-! THE SMALL MACHINE: cells by their places (0, 1, .. in the order in which they are made), references are places; one step is a function; a method is a table of steps -/
/-- a cell: an array of a type, or an object of a class (by its number in vwCl) -/
abbrev gE : Type := (FieldType × vp_A) ⊕ (Nat × List Value)
abbrev gH : Type := Nat → gE
/-- locals (null: unset), stack, cells made, slots made, cells -/
abbrev gS : Type := List Value × List Value × Nat × Nat × gH
/-- the law's script: its length, its ints -/
abbrev gX : Type := Nat × (Nat → Int32)
/-- an instruction: a step; a call (callee, values popped, its locals, receiver's kind, next); a return -/
abbrev gO : Type := (gS → Option (Nat × gS)) ⊕ ((Nat × Nat × Nat × Nat × Nat) ⊕ Option FieldType)
abbrev gRes : Type := Option Value × Nat × Nat × gH
def gcat (l : List Value) : Nat := (l.map fun v => v.category).sum
/-- the receiver: 0: none is asked; c + 1: an object of class c; 1000: a text -/
def grc (w : gH) (rc : Nat) (vs : List Value) : Bool := match rc with
  | 0 => true
  | c + 1 => match vs with
    | .ref a :: _ => (match w a with
      | .inr (ci, _) => ci == c || c == 1999
      | .inl _ => false)
    | .retAddr j :: _ => c == 999 && decide (1 ≤ j) && decide (j ≤ 5)
    | _ => false
/-- what is reached in at most so many steps -/
def gx (T : Nat → Nat → gO) : Nat → Nat → Nat → gS → Option gRes
  | 0, _, _, _ => none
  | f + 1, i, pc, S => match T i pc with
    | .inl o => (match o S with
      | some (q, S') => gx T f i q S'
      | none => none)
    | .inr (.inl (j, na, mx, rc, q)) =>
      if na ≤ S.2.1.length ∧ gcat (S.2.1.drop na) ≤ 8 ∧ gcat (S.2.1.take na) = na ∧ grc S.2.2.2.2 rc ((S.2.1.take na).reverse) = true then
        (match gx T f j 0 ((S.2.1.take na).reverse ++ List.replicate (mx - na) .null, [], S.2.2) with
        | some r => gx T f i q (S.1, r.1.toList ++ S.2.1.drop na, r.2)
        | none => none)
      else none
    | .inr (.inr none) => if S.2.1 = [] then some (none, S.2.2) else none
    | .inr (.inr (some ty)) => (match S.2.1 with
      | [.int v] => if narrow ty (.int v) = .int v then some (some (.int v), S.2.2) else none
      | _ => none)
theorem gx_mono1 (T : Nat → Nat → gO) : ∀ (f i pc : Nat) (S : gS) (r : gRes), gx T f i pc S = some r → gx T (f + 1) i pc S = some r := by
  intro f
  induction f with
  | zero => intro i pc S r h; simp [gx] at h
  | succ f ih =>
    intro i pc S r h
    rw [gx] at h ⊢
    cases hT : T i pc with
    | inl o =>
      rw [hT] at h
      cases ho : o S with
      | none => simp [ho] at h
      | some qs =>
        simp only [ho] at h ⊢
        exact ih _ _ _ _ h
    | inr z =>
      rw [hT] at h
      rcases z with ⟨j, na, mx, rc, q⟩ | z
      · simp only at h ⊢
        split at h
        · rename_i hc
          rw [if_pos hc]
          cases hg : gx T f j 0 ((S.2.1.take na).reverse ++ List.replicate (mx - na) .null, [], S.2.2) with
          | none => simp [hg] at h
          | some r1 =>
            simp only [hg] at h
            rw [ih _ _ _ _ hg]
            exact ih _ _ _ _ h
        · cases h
      · cases z with
        | none => exact h
        | some ty => exact h
theorem gx_mono (T : Nat → Nat → gO) {f g i pc : Nat} {S : gS} {r : gRes} (hfg : f ≤ g) (h : gx T f i pc S = some r) : gx T g i pc S = some r := by
  induction hfg with
  | refl => exact h
  | step _ ih => exact gx_mono1 T _ _ _ _ _ ih
theorem gx_det (T : Nat → Nat → gO) {f g i pc : Nat} {S : gS} {r r' : gRes} (h : gx T f i pc S = some r) (h' : gx T g i pc S = some r') : r = r' := by
  rcases Nat.le_total f g with q | q
  · exact Option.some.inj ((gx_mono T q h).symm.trans h')
  · exact Option.some.inj (h.symm.trans (gx_mono T q h'))
/-- the run ends, and its end is as Q says -/
def gEv (T : Nat → Nat → gO) (i pc : Nat) (ls st : List Value) (n k : Nat) (w : gH) (Q : Option Value → Nat → Nat → gH → Prop) : Prop :=
  ∃ (f : Nat) (r : gRes), gx T f i pc (ls, st, n, k, w) = some r ∧ Q r.1 r.2.1 r.2.2.1 r.2.2.2
section EV
variable {T : Nat → Nat → gO} {i pc q t : Nat} {ls st : List Value} {n k : Nat} {w : gH} {Q : Option Value → Nat → Nat → gH → Prop}
theorem ev_op {o : gS → Option (Nat × gS)} (h : T i pc = .inl o) {ls' st' : List Value} {n' k' : Nat} {w' : gH} (ho : o (ls, st, n, k, w) = some (q, ls', st', n', k', w')) : gEv T i pc ls st n k w Q ↔ gEv T i q ls' st' n' k' w' Q := by
  constructor
  · rintro ⟨f, r, h1, h2⟩
    cases f with
    | zero => simp [gx] at h1
    | succ f =>
      rw [gx, h] at h1
      simp only [ho] at h1
      exact ⟨f, r, h1, h2⟩
  · rintro ⟨f, r, h1, h2⟩
    refine ⟨f + 1, r, ?_, h2⟩
    rw [gx, h]
    simp only [ho]
    exact h1
theorem ev_no {o : gS → Option (Nat × gS)} (h : T i pc = .inl o) (ho : o (ls, st, n, k, w) = none) : gEv T i pc ls st n k w Q ↔ False := by
  constructor
  · rintro ⟨f, r, h1, h2⟩
    cases f with
    | zero => simp [gx] at h1
    | succ f =>
      rw [gx, h] at h1
      simp [ho] at h1
  · exact False.elim
/-- a run whose end is known -/
def gRun (T : Nat → Nat → gO) (i : Nat) (ls : List Value) (n k : Nat) (w : gH) (v : Option Value) (n' k' : Nat) (w' : gH) : Prop := ∃ f, gx T f i 0 (ls, [], n, k, w) = some (v, n', k', w')
theorem gRun.ev {v : Option Value} {n' k' : Nat} {w' : gH} (h : gRun T i ls n k w v n' k' w') : gEv T i 0 ls [] n k w Q ↔ Q v n' k' w' := by
  obtain ⟨f, h⟩ := h
  constructor
  · rintro ⟨g, r, h1, h2⟩
    have e := gx_det T h h1
    subst e
    exact h2
  · intro h2
    exact ⟨f, _, h, h2⟩
theorem gRun.of {v : Option Value} {n' k' : Nat} {w' : gH} (h : gEv T i 0 ls [] n k w (fun v1 n1 k1 w1 => v1 = v ∧ n1 = n' ∧ k1 = k' ∧ w1 = w')) : gRun T i ls n k w v n' k' w' := by
  obtain ⟨f, ⟨a, b, c, d⟩, h1, e1, e2, e3, e4⟩ := h
  dsimp only at e1 e2 e3 e4
  subst e1; subst e2; subst e3; subst e4
  exact ⟨f, h1⟩
theorem gEv.mono {Q' : Option Value → Nat → Nat → gH → Prop} (h : gEv T i pc ls st n k w Q) (hq : ∀ v n k w, Q v n k w → Q' v n k w) : gEv T i pc ls st n k w Q' := by
  obtain ⟨f, r, h1, h2⟩ := h
  exact ⟨f, r, h1, hq _ _ _ _ h2⟩
theorem ev_call {j na mx rc : Nat} (h : T i pc = .inr (.inl (j, na, mx, rc, q))) : gEv T i pc ls st n k w Q ↔ (na ≤ st.length ∧ gcat (st.drop na) ≤ 8 ∧ gcat (st.take na) = na ∧ grc w rc ((st.take na).reverse) = true ∧ gEv T j 0 ((st.take na).reverse ++ List.replicate (mx - na) .null) [] n k w (fun v n' k' w' => gEv T i q ls (v.toList ++ st.drop na) n' k' w' Q)) := by
  constructor
  · rintro ⟨f, r, h1, h2⟩
    cases f with
    | zero => simp [gx] at h1
    | succ f =>
      rw [gx, h] at h1
      simp only at h1
      split at h1
      · rename_i hc
        cases hg : gx T f j 0 ((st.take na).reverse ++ List.replicate (mx - na) .null, [], n, k, w) with
        | none => simp [hg] at h1
        | some r1 =>
          simp only [hg] at h1
          exact ⟨hc.1, hc.2.1, hc.2.2.1, hc.2.2.2, f, r1, hg, f, r, h1, h2⟩
      · cases h1
  · rintro ⟨c1, c2, c3, c4, f, r1, hg, g, r, h1, h2⟩
    refine ⟨max f g + 1, r, ?_, h2⟩
    rw [gx, h]
    simp only
    rw [if_pos ⟨c1, c2, c3, c4⟩, gx_mono T (Nat.le_max_left f g) hg]
    exact gx_mono T (Nat.le_max_right f g) h1
theorem ev_call' {j na mx rc : Nat} (h : T i pc = .inr (.inl (j, na, mx, rc, q))) {st' as en : List Value} (hd : st.drop na = st') (ht : (st.take na).reverse = as) (hn : na ≤ st.length) (hk : gcat (st.take na) = na) (he : as ++ List.replicate (mx - na) .null = en) : gEv T i pc ls st n k w Q ↔ (gcat st' ≤ 8 ∧ grc w rc as = true ∧ gEv T j 0 en [] n k w (fun v n' k' w' => gEv T i q ls (v.toList ++ st') n' k' w' Q)) := by
  rw [ev_call h, hd, ht, he]
  exact ⟨fun z => ⟨z.2.1, z.2.2.2⟩, fun z => ⟨hn, z.1, hk, z.2⟩⟩
theorem ev_ret {ty : FieldType} (h : T i pc = .inr (.inr (some ty))) {v : Int32} : gEv T i pc ls [.int v] n k w Q ↔ (narrow ty (.int v) = .int v ∧ Q (some (.int v)) n k w) := by
  constructor
  · rintro ⟨f, r, h1, h2⟩
    cases f with
    | zero => simp [gx] at h1
    | succ f =>
      rw [gx, h] at h1
      simp only at h1
      split at h1
      · rename_i hc
        cases h1
        exact ⟨hc, h2⟩
      · cases h1
  · rintro ⟨hc, h2⟩
    refine ⟨1, (some (.int v), n, k, w), ?_, h2⟩
    rw [gx, h]
    simp only
    rw [if_pos hc]
theorem ev_retI (h : T i pc = .inr (.inr (some .int))) {x : Int32} : gEv T i pc ls [.int x] n k w Q ↔ Q (some (.int x)) n k w := by
  rw [ev_ret h]
  exact ⟨fun z => z.2, fun z => ⟨rfl, z⟩⟩
theorem ev_retV (h : T i pc = .inr (.inr none)) : gEv T i pc ls [] n k w Q ↔ Q none n k w := by
  constructor
  · rintro ⟨f, r, h1, h2⟩
    cases f with
    | zero => simp [gx] at h1
    | succ f =>
      rw [gx, h] at h1
      simp only [if_true] at h1
      cases h1
      exact h2
  · intro h2
    refine ⟨1, (none, n, k, w), ?_, h2⟩
    rw [gx, h]
    simp only [if_true]
end EV
/-! THE STEPS -/
def oCst (v : Value) (q : Nat) : gS → Option (Nat × gS) := fun S => some (q, S.1, v :: S.2.1, S.2.2)
def oLdI (j q : Nat) : gS → Option (Nat × gS) := fun S => match S.1[j]? with
  | some (.int x) => some (q, S.1, .int x :: S.2.1, S.2.2)
  | _ => none
def oLdL (j q : Nat) : gS → Option (Nat × gS) := fun S => match S.1[j]? with
  | some (.long x) => some (q, S.1, .long x :: S.2.1, S.2.2)
  | _ => none
def oLdA (j q : Nat) : gS → Option (Nat × gS) := fun S => match S.1[j]? with
  | some (.ref x) => some (q, S.1, .ref x :: S.2.1, S.2.2)
  | some (.retAddr x) => if x ≤ 20 then some (q, S.1, .retAddr x :: S.2.1, S.2.2) else none
  | _ => none
/-- no long stands just ahead of the place -/
def gfree (ls : List Value) (j : Nat) : Bool := match j with
  | 0 => true
  | j + 1 => match ls[j]? with
    | some v => decide (v.category = 1)
    | none => true
def oStI (j q : Nat) : gS → Option (Nat × gS) := fun S => match S.2.1 with
  | .int x :: r => if j < S.1.length ∧ gfree S.1 j = true then some (q, S.1.set j (.int x), r, S.2.2) else none
  | _ => none
def oStA (j q : Nat) : gS → Option (Nat × gS) := fun S => match S.2.1 with
  | .ref x :: r => if j < S.1.length ∧ gfree S.1 j = true then some (q, S.1.set j (.ref x), r, S.2.2) else none
  | _ => none
def oStL (j q : Nat) : gS → Option (Nat × gS) := fun S => match S.2.1 with
  | .long x :: r => if j + 1 < S.1.length ∧ gfree S.1 j = true then some (q, (S.1.set j (.long x)).set (j + 1) .null, r, S.2.2) else none
  | _ => none
def oInc (j : Nat) (c : Int32) (q : Nat) : gS → Option (Nat × gS) := fun S => match S.1[j]? with
  | some (.int x) => if gfree S.1 j = true then some (q, S.1.set j (.int (x + c)), S.2.1, S.2.2) else none
  | _ => none
def oBin (f : Int32 → Int32 → Int32) (q : Nat) : gS → Option (Nat × gS) := fun S => match S.2.1 with
  | .int y :: .int x :: r => some (q, S.1, .int (f x y) :: r, S.2.2)
  | _ => none
def oUn (f : Int32 → Int32) (q : Nat) : gS → Option (Nat × gS) := fun S => match S.2.1 with
  | .int x :: r => some (q, S.1, .int (f x) :: r, S.2.2)
  | _ => none
def oDiv (f : Int32 → Int32 → Int32) (q : Nat) : gS → Option (Nat × gS) := fun S => match S.2.1 with
  | .int y :: .int x :: r => if y = 0 then none else some (q, S.1, .int (f x y) :: r, S.2.2)
  | _ => none
def oBinL (f : Int64 → Int64 → Int64) (q : Nat) : gS → Option (Nat × gS) := fun S => match S.2.1 with
  | .long y :: .long x :: r => some (q, S.1, .long (f x y) :: r, S.2.2)
  | _ => none
def oLcmp (q : Nat) : gS → Option (Nat × gS) := fun S => match S.2.1 with
  | .long y :: .long x :: r => some (q, S.1, .int (lg_cmp x y) :: r, S.2.2)
  | _ => none
def oI2L (q : Nat) : gS → Option (Nat × gS) := fun S => match S.2.1 with
  | .int x :: r => some (q, S.1, .long x.toInt64 :: r, S.2.2)
  | _ => none
def oIf1 (c : Int32 → Bool) (t q : Nat) : gS → Option (Nat × gS) := fun S => match S.2.1 with
  | .int x :: r => some (if c x = true then t else q, S.1, r, S.2.2)
  | _ => none
def oIf2 (c : Int32 → Int32 → Bool) (t q : Nat) : gS → Option (Nat × gS) := fun S => match S.2.1 with
  | .int y :: .int x :: r => some (if c x y = true then t else q, S.1, r, S.2.2)
  | _ => none
def oIfN (t q : Nat) : gS → Option (Nat × gS) := fun S => match S.2.1 with
  | .ref _ :: r => some (t, S.1, r, S.2.2)
  | .null :: r => some (q, S.1, r, S.2.2)
  | _ => none
def oGo (t : Nat) : gS → Option (Nat × gS) := fun S => some (t, S)
def oDup (q : Nat) : gS → Option (Nat × gS) := fun S => match S.2.1 with
  | v :: r => if v.category = 1 then some (q, S.1, v :: v :: r, S.2.2) else none
  | _ => none
def oDup2 (q : Nat) : gS → Option (Nat × gS) := fun S => match S.2.1 with
  | v :: u :: r => if v.category = 1 ∧ u.category = 1 then some (q, S.1, v :: u :: v :: u :: r, S.2.2) else none
  | _ => none
/-- the field k of an object of class c -/
def gfld (c k : Nat) : gE → Option Value
  | .inr (ci, fs) => if ci = c then fs[k]? else none
  | .inl _ => none
def oGet (c j q : Nat) : gS → Option (Nat × gS) := fun S => match S.2.1 with
  | .ref a :: r => (match gfld c j (S.2.2.2.2 a) with
    | some v => some (q, S.1, v :: r, S.2.2)
    | none => none)
  | _ => none
/-- the fields of an object of class c -/
def gobj (c : Nat) : gE → Option (List Value)
  | .inr (ci, fs) => if ci = c then some fs else none
  | .inl _ => none
def oPutI (c j q : Nat) : gS → Option (Nat × gS) := fun S => match S.2.1 with
  | .int x :: .ref a :: r => (match gobj c (S.2.2.2.2 a) with
    | some fs => if j < fs.length then some (q, S.1, r, S.2.2.1, S.2.2.2.1, va_up S.2.2.2.2 a (.inr (c, fs.set j (.int x)))) else none
    | none => none)
  | _ => none
def oPutA (c j q : Nat) : gS → Option (Nat × gS) := fun S => match S.2.1 with
  | .ref x :: .ref a :: r => (match gobj c (S.2.2.2.2 a) with
    | some fs => if j < fs.length then some (q, S.1, r, S.2.2.1, S.2.2.2.1, va_up S.2.2.2.2 a (.inr (c, fs.set j (.ref x)))) else none
    | none => none)
  | _ => none
def oNew (c N : Nat) (fs : List Value) (q : Nat) : gS → Option (Nat × gS) := fun S => some (q, S.1, .ref S.2.2.1 :: S.2.1, S.2.2.1 + 1, S.2.2.2.1 + N, va_up S.2.2.2.2 S.2.2.1 (.inr (c, fs)))
def oNewA (ty : FieldType) (q : Nat) : gS → Option (Nat × gS) := fun S => match S.2.1 with
  | .int m :: r => if 0 ≤ m ∧ m ≤ 1000 then some (q, S.1, .ref S.2.2.1 :: r, S.2.2.1 + 1, S.2.2.2.1 + m.toNatClampNeg, va_up S.2.2.2.2 S.2.2.1 (.inl (ty, m.toNatClampNeg, .inl (fun _ => 0)))) else none
  | _ => none
def oANew (ty : FieldType) (q : Nat) : gS → Option (Nat × gS) := fun S => match S.2.1 with
  | .int m :: r => if 0 ≤ m ∧ m ≤ 1000 then some (q, S.1, .ref S.2.2.1 :: r, S.2.2.1 + 1, S.2.2.2.1 + m.toNatClampNeg, va_up S.2.2.2.2 S.2.2.1 (.inl (ty, m.toNatClampNeg, .inr (.inr (.inr (.inr (fun _ => none))))))) else none
  | _ => none
/-- the ints of an array of ints (booleans) -/
def garr (ty : FieldType) : gE → Option (Nat × (Nat → Int32))
  | .inl (t, m, .inl f) => if t = ty then some (m, f) else none
  | _ => none
/-- the references of an array of references -/
def garq (ty : FieldType) : gE → Option (Nat × (Nat → Option Nat))
  | .inl (t, m, .inr (.inr (.inr (.inr f)))) => if t = ty then some (m, f) else none
  | _ => none
def glen (ty : FieldType) : gE → Option Nat
  | .inl (t, m, _) => if t = ty then some m else none
  | .inr _ => none
def oIald (ty : FieldType) (q : Nat) : gS → Option (Nat × gS) := fun S => match S.2.1 with
  | .int x :: .ref a :: r => (match garr ty (S.2.2.2.2 a) with
    | some (m, f) => if x < 0 ∨ m ≤ x.toNatClampNeg then none else some (q, S.1, .int (f x.toNatClampNeg) :: r, S.2.2)
    | none => none)
  | _ => none
def oAald (ty : FieldType) (q : Nat) : gS → Option (Nat × gS) := fun S => match S.2.1 with
  | .int x :: .ref a :: r => (match garq ty (S.2.2.2.2 a) with
    | some (m, f) => if x < 0 ∨ m ≤ x.toNatClampNeg then none else some (q, S.1, va_rf (f x.toNatClampNeg) :: r, S.2.2)
    | none => none)
  | _ => none
def oIast (q : Nat) : gS → Option (Nat × gS) := fun S => match S.2.1 with
  | .int y :: .int x :: .ref a :: r => (match garr .int (S.2.2.2.2 a) with
    | some (m, f) => if x < 0 ∨ m ≤ x.toNatClampNeg then none else some (q, S.1, r, S.2.2.1, S.2.2.2.1, va_up S.2.2.2.2 a (.inl (.int, m, .inl (upd f x.toNatClampNeg y))))
    | none => none)
  | _ => none
def oZast (q : Nat) : gS → Option (Nat × gS) := fun S => match S.2.1 with
  | .int y :: .int x :: .ref a :: r => (match garr .boolean (S.2.2.2.2 a) with
    | some (m, f) => if x < 0 ∨ m ≤ x.toNatClampNeg then none else some (q, S.1, r, S.2.2.1, S.2.2.2.1, va_up S.2.2.2.2 a (.inl (.boolean, m, .inl (upd f x.toNatClampNeg (vp_nar .boolean y)))))
    | none => none)
  | _ => none
def oAast (ty : FieldType) (c q : Nat) : gS → Option (Nat × gS) := fun S => match S.2.1 with
  | .ref y :: .int x :: .ref a :: r => (match gobj c (S.2.2.2.2 y), garq ty (S.2.2.2.2 a) with
    | some _, some (m, f) => if x < 0 ∨ m ≤ x.toNatClampNeg then none else some (q, S.1, r, S.2.2.1, S.2.2.2.1, va_up S.2.2.2.2 a (.inl (ty, m, .inr (.inr (.inr (.inr (va_up f x.toNatClampNeg (some y))))))))
    | _, _ => none)
  | _ => none
def oLen (ty : FieldType) (q : Nat) : gS → Option (Nat × gS) := fun S => match S.2.1 with
  | .ref a :: r => (match glen ty (S.2.2.2.2 a) with
    | some m => some (q, S.1, .int (Int32.ofNat m) :: r, S.2.2)
    | none => none)
  | _ => none
def oCopy (q : Nat) : gS → Option (Nat × gS) := fun S => match S.2.1 with
  | .int m :: .int dp :: .ref b :: .int sp :: .ref a :: r => (match garr .int (S.2.2.2.2 a), garr .int (S.2.2.2.2 b) with
    | some (n0, f), some (n1, g) => if gcat r ≤ 8 ∧ ¬ sp < 0 ∧ ¬ dp < 0 ∧ ¬ m < 0 ∧ sp.toNatClampNeg + m.toNatClampNeg ≤ n0 ∧ dp.toNatClampNeg + m.toNatClampNeg ≤ n1 then some (q, S.1, r, S.2.2.1, S.2.2.2.1, va_up S.2.2.2.2 b (.inl (.int, n1, .inl (va_cpy f g sp.toNatClampNeg dp.toNatClampNeg m.toNatClampNeg)))) else none
    | _, _ => none)
  | _ => none
def oInit (q : Nat) : gS → Option (Nat × gS) := fun S => match S.2.1 with
  | .ref _ :: r => if gcat r ≤ 8 then some (q, S.1, r, S.2.2) else none
  | _ => none
/-- Math.max, Math.min -/
def oMx (f : Int32 → Int32 → Int32) (q : Nat) : gS → Option (Nat × gS) := fun S => match S.2.1 with
  | .int y :: .int x :: r => if gcat r ≤ 8 then some (q, S.1, .int (f x y) :: r, S.2.2) else none
  | _ => none
def oSw (f : Int32 → Nat) : gS → Option (Nat × gS) := fun S => match S.2.1 with
  | .int x :: r => some (f x, S.1, r, S.2.2)
  | _ => none
def oSLen (X : gX) (q : Nat) : gS → Option (Nat × gS) := fun S => match S.2.1 with
  | .retAddr 0 :: r => some (q, S.1, .int (Int32.ofNat X.1) :: r, S.2.2)
  | _ => none
def oSLd (X : gX) (q : Nat) : gS → Option (Nat × gS) := fun S => match S.2.1 with
  | .int x :: .retAddr 0 :: r => if x < 0 ∨ X.1 ≤ x.toNatClampNeg then none else some (q, S.1, .int (X.2 x.toNatClampNeg) :: r, S.2.2)
  | _ => none
/-- the texts: coin, hole, scale, rim, room -/
def gbyt : List (List Int32) := [[99, 111, 105, 110], [104, 111, 108, 101], [115, 99, 97, 108, 101], [114, 105, 109], [114, 111, 111, 109]]
def glens : List Nat := [4, 4, 5, 3, 4]
def oKVal (q : Nat) : gS → Option (Nat × gS) := fun S => match S.2.1 with
  | .retAddr (j + 1) :: r => if j < 5 then some (q, S.1, .retAddr (j + 11) :: r, S.2.2) else none
  | _ => none
def oKCod (q : Nat) : gS → Option (Nat × gS) := fun S => match S.2.1 with
  | .retAddr (j + 1) :: r => if j < 5 then some (q, S.1, .int 0 :: r, S.2.2) else none
  | _ => none
def oKLen (q : Nat) : gS → Option (Nat × gS) := fun S => match S.2.1 with
  | .retAddr (j + 11) :: r => if j < 5 then some (q, S.1, .int (Int32.ofNat (glens.getD j 0)) :: r, S.2.2) else none
  | _ => none
def oKLd (q : Nat) : gS → Option (Nat × gS) := fun S => match S.2.1 with
  | .int x :: .retAddr (j + 11) :: r => if j < 5 ∧ ¬ (x < 0 ∨ glens.getD j 0 ≤ x.toNatClampNeg) then some (q, S.1, .int ((gbyt.getD j []).getD x.toNatClampNeg 0) :: r, S.2.2) else none
  | _ => none
section EW
variable {T : Nat → Nat → gO} {i pc q t j c : Nat} {ls st : List Value} {n k : Nat} {w : gH} {Q : Option Value → Nat → Nat → gH → Prop}
theorem ev_cst {v : Value} (h : T i pc = .inl (oCst v q)) : gEv T i pc ls st n k w Q ↔ gEv T i q ls (v :: st) n k w Q := ev_op h rfl
theorem ev_ldI (h : T i pc = .inl (oLdI j q)) {x : Int32} (hj : ls[j]? = some (.int x)) : gEv T i pc ls st n k w Q ↔ gEv T i q ls (.int x :: st) n k w Q := ev_op h (by simp only [oLdI, hj])
theorem ev_ldL (h : T i pc = .inl (oLdL j q)) {x : Int64} (hj : ls[j]? = some (.long x)) : gEv T i pc ls st n k w Q ↔ gEv T i q ls (.long x :: st) n k w Q := ev_op h (by simp only [oLdL, hj])
theorem ev_ldA (h : T i pc = .inl (oLdA j q)) {a : Nat} (hj : ls[j]? = some (.ref a)) : gEv T i pc ls st n k w Q ↔ gEv T i q ls (.ref a :: st) n k w Q := ev_op h (by simp only [oLdA, hj])
theorem ev_ldS (h : T i pc = .inl (oLdA j q)) {a : Nat} (hj : ls[j]? = some (.retAddr a)) (ha : a ≤ 20) : gEv T i pc ls st n k w Q ↔ gEv T i q ls (.retAddr a :: st) n k w Q := ev_op h (by simp only [oLdA, hj]; rw [if_pos ha])
theorem ev_stI (h : T i pc = .inl (oStI j q)) {x : Int32} {ls' : List Value} (hj : j < ls.length) (hf : gfree ls j = true) (hl : ls.set j (.int x) = ls') : gEv T i pc ls (.int x :: st) n k w Q ↔ gEv T i q ls' st n k w Q := ev_op h (by simp only [oStI, hl]; rw [if_pos ⟨hj, hf⟩])
theorem ev_stA (h : T i pc = .inl (oStA j q)) {x : Nat} {ls' : List Value} (hj : j < ls.length) (hf : gfree ls j = true) (hl : ls.set j (.ref x) = ls') : gEv T i pc ls (.ref x :: st) n k w Q ↔ gEv T i q ls' st n k w Q := ev_op h (by simp only [oStA, hl]; rw [if_pos ⟨hj, hf⟩])
theorem ev_stL (h : T i pc = .inl (oStL j q)) {x : Int64} {ls' : List Value} (hj : j + 1 < ls.length) (hf : gfree ls j = true) (hl : (ls.set j (.long x)).set (j + 1) .null = ls') : gEv T i pc ls (.long x :: st) n k w Q ↔ gEv T i q ls' st n k w Q := ev_op h (by simp only [oStL, hl]; rw [if_pos ⟨hj, hf⟩])
theorem ev_inc {d : Int32} (h : T i pc = .inl (oInc j d q)) {x : Int32} {ls' : List Value} (hj : ls[j]? = some (.int x)) (hf : gfree ls j = true) (hl : ls.set j (.int (x + d)) = ls') : gEv T i pc ls st n k w Q ↔ gEv T i q ls' st n k w Q := ev_op h (by simp only [oInc, hj, hl]; rw [if_pos hf])
theorem ev_bin {f : Int32 → Int32 → Int32} (h : T i pc = .inl (oBin f q)) {x y : Int32} : gEv T i pc ls (.int y :: .int x :: st) n k w Q ↔ gEv T i q ls (.int (f x y) :: st) n k w Q := ev_op h rfl
theorem ev_un {f : Int32 → Int32} (h : T i pc = .inl (oUn f q)) {x : Int32} : gEv T i pc ls (.int x :: st) n k w Q ↔ gEv T i q ls (.int (f x) :: st) n k w Q := ev_op h rfl
theorem ev_div {f : Int32 → Int32 → Int32} (h : T i pc = .inl (oDiv f q)) {x y : Int32} : gEv T i pc ls (.int y :: .int x :: st) n k w Q ↔ (¬ y = 0 ∧ gEv T i q ls (.int (f x y) :: st) n k w Q) := by
  by_cases hy : y = 0
  · rw [ev_no h (by simp only [oDiv]; rw [if_pos hy])]
    exact ⟨False.elim, fun z => z.1 hy⟩
  · rw [ev_op h (show oDiv f q (ls, .int y :: .int x :: st, n, k, w) = some (q, ls, .int (f x y) :: st, n, k, w) by simp only [oDiv]; rw [if_neg hy])]
    exact ⟨fun z => ⟨hy, z⟩, fun z => z.2⟩
theorem ev_binL {f : Int64 → Int64 → Int64} (h : T i pc = .inl (oBinL f q)) {x y : Int64} : gEv T i pc ls (.long y :: .long x :: st) n k w Q ↔ gEv T i q ls (.long (f x y) :: st) n k w Q := ev_op h rfl
theorem ev_lcmp (h : T i pc = .inl (oLcmp q)) {x y : Int64} : gEv T i pc ls (.long y :: .long x :: st) n k w Q ↔ gEv T i q ls (.int (lg_cmp x y) :: st) n k w Q := ev_op h rfl
theorem ev_i2l (h : T i pc = .inl (oI2L q)) {x : Int32} : gEv T i pc ls (.int x :: st) n k w Q ↔ gEv T i q ls (.long x.toInt64 :: st) n k w Q := ev_op h rfl
theorem ev_if1 {d : Int32 → Bool} (h : T i pc = .inl (oIf1 d t q)) {x : Int32} : gEv T i pc ls (.int x :: st) n k w Q ↔ (if d x = true then gEv T i t ls st n k w Q else gEv T i q ls st n k w Q) := by
  by_cases hx : d x = true
  · rw [if_pos hx]
    exact ev_op h (by simp only [oIf1]; rw [if_pos hx])
  · rw [if_neg hx]
    exact ev_op h (by simp only [oIf1]; rw [if_neg hx])
theorem ev_if2 {d : Int32 → Int32 → Bool} (h : T i pc = .inl (oIf2 d t q)) {x y : Int32} : gEv T i pc ls (.int y :: .int x :: st) n k w Q ↔ (if d x y = true then gEv T i t ls st n k w Q else gEv T i q ls st n k w Q) := by
  by_cases hx : d x y = true
  · rw [if_pos hx]
    exact ev_op h (by simp only [oIf2]; rw [if_pos hx])
  · rw [if_neg hx]
    exact ev_op h (by simp only [oIf2]; rw [if_neg hx])
theorem ev_ifR (h : T i pc = .inl (oIfN t q)) {a : Nat} : gEv T i pc ls (.ref a :: st) n k w Q ↔ gEv T i t ls st n k w Q := ev_op h rfl
theorem ev_ifN (h : T i pc = .inl (oIfN t q)) : gEv T i pc ls (.null :: st) n k w Q ↔ gEv T i q ls st n k w Q := ev_op h rfl
theorem ev_go (h : T i pc = .inl (oGo t)) : gEv T i pc ls st n k w Q ↔ gEv T i t ls st n k w Q := ev_op h rfl
theorem ev_dupI (h : T i pc = .inl (oDup q)) {x : Int32} : gEv T i pc ls (.int x :: st) n k w Q ↔ gEv T i q ls (.int x :: .int x :: st) n k w Q := ev_op h rfl
theorem ev_dupA (h : T i pc = .inl (oDup q)) {a : Nat} : gEv T i pc ls (.ref a :: st) n k w Q ↔ gEv T i q ls (.ref a :: .ref a :: st) n k w Q := ev_op h rfl
theorem ev_dup2 (h : T i pc = .inl (oDup2 q)) {x : Int32} {a : Nat} : gEv T i pc ls (.int x :: .ref a :: st) n k w Q ↔ gEv T i q ls (.int x :: .ref a :: .int x :: .ref a :: st) n k w Q := ev_op h rfl
theorem ev_get (h : T i pc = .inl (oGet c j q)) {a : Nat} : gEv T i pc ls (.ref a :: st) n k w Q ↔ ∃ v, gfld c j (w a) = some v ∧ gEv T i q ls (v :: st) n k w Q := by
  cases hv : gfld c j (w a) with
  | none =>
    rw [ev_no h (by simp only [oGet, hv])]
    exact ⟨False.elim, fun ⟨v, z, _⟩ => by cases z⟩
  | some v =>
    rw [ev_op h (show oGet c j q (ls, .ref a :: st, n, k, w) = some (q, ls, v :: st, n, k, w) by simp only [oGet, hv])]
    exact ⟨fun z => ⟨v, rfl, z⟩, fun ⟨v', z, z'⟩ => by cases z; exact z'⟩
theorem ev_putI (h : T i pc = .inl (oPutI c j q)) {a : Nat} {x : Int32} : gEv T i pc ls (.int x :: .ref a :: st) n k w Q ↔ ∃ fs, gobj c (w a) = some fs ∧ j < fs.length ∧ gEv T i q ls st n k (va_up w a (.inr (c, fs.set j (.int x)))) Q := by
  cases hv : gobj c (w a) with
  | none =>
    rw [ev_no h (by simp only [oPutI, hv])]
    exact ⟨False.elim, fun ⟨v, z, _⟩ => by cases z⟩
  | some fs =>
    by_cases hj : j < fs.length
    · rw [ev_op h (show oPutI c j q (ls, .int x :: .ref a :: st, n, k, w) = some (q, ls, st, n, k, va_up w a (.inr (c, fs.set j (.int x)))) by simp only [oPutI, hv]; rw [if_pos hj])]
      exact ⟨fun z => ⟨fs, rfl, hj, z⟩, fun ⟨v', z, _, z'⟩ => by cases z; exact z'⟩
    · rw [ev_no h (by simp only [oPutI, hv]; rw [if_neg hj])]
      exact ⟨False.elim, fun ⟨v', z, z2, _⟩ => by cases z; exact hj z2⟩
theorem ev_putA (h : T i pc = .inl (oPutA c j q)) {a x : Nat} : gEv T i pc ls (.ref x :: .ref a :: st) n k w Q ↔ ∃ fs, gobj c (w a) = some fs ∧ j < fs.length ∧ gEv T i q ls st n k (va_up w a (.inr (c, fs.set j (.ref x)))) Q := by
  cases hv : gobj c (w a) with
  | none =>
    rw [ev_no h (by simp only [oPutA, hv])]
    exact ⟨False.elim, fun ⟨v, z, _⟩ => by cases z⟩
  | some fs =>
    by_cases hj : j < fs.length
    · rw [ev_op h (show oPutA c j q (ls, .ref x :: .ref a :: st, n, k, w) = some (q, ls, st, n, k, va_up w a (.inr (c, fs.set j (.ref x)))) by simp only [oPutA, hv]; rw [if_pos hj])]
      exact ⟨fun z => ⟨fs, rfl, hj, z⟩, fun ⟨v', z, _, z'⟩ => by cases z; exact z'⟩
    · rw [ev_no h (by simp only [oPutA, hv]; rw [if_neg hj])]
      exact ⟨False.elim, fun ⟨v', z, z2, _⟩ => by cases z; exact hj z2⟩
theorem ev_new {N : Nat} {fs : List Value} (h : T i pc = .inl (oNew c N fs q)) : gEv T i pc ls st n k w Q ↔ gEv T i q ls (.ref n :: st) (n + 1) (k + N) (va_up w n (.inr (c, fs))) Q := ev_op h rfl
theorem ev_newA {ty : FieldType} (h : T i pc = .inl (oNewA ty q)) {m : Int32} (hm : 0 ≤ m ∧ m ≤ 1000) : gEv T i pc ls (.int m :: st) n k w Q ↔ gEv T i q ls (.ref n :: st) (n + 1) (k + m.toNatClampNeg) (va_up w n (.inl (ty, m.toNatClampNeg, .inl (fun _ => 0)))) Q := ev_op h (by simp only [oNewA]; rw [if_pos hm])
theorem ev_aNew {ty : FieldType} (h : T i pc = .inl (oANew ty q)) {m : Int32} (hm : 0 ≤ m ∧ m ≤ 1000) : gEv T i pc ls (.int m :: st) n k w Q ↔ gEv T i q ls (.ref n :: st) (n + 1) (k + m.toNatClampNeg) (va_up w n (.inl (ty, m.toNatClampNeg, .inr (.inr (.inr (.inr (fun _ => none))))))) Q := ev_op h (by simp only [oANew]; rw [if_pos hm])
theorem ev_iald {ty : FieldType} (h : T i pc = .inl (oIald ty q)) {a : Nat} {x : Int32} : gEv T i pc ls (.int x :: .ref a :: st) n k w Q ↔ ∃ mf, garr ty (w a) = some mf ∧ vp_in x mf.1 ∧ gEv T i q ls (.int (mf.2 x.toNatClampNeg) :: st) n k w Q := by
  cases hv : garr ty (w a) with
  | none =>
    rw [ev_no h (by simp only [oIald, hv])]
    exact ⟨False.elim, fun ⟨v, z, _⟩ => by cases z⟩
  | some mf =>
    obtain ⟨m, f⟩ := mf
    by_cases hj : x < 0 ∨ m ≤ x.toNatClampNeg
    · rw [ev_no h (by simp only [oIald, hv]; rw [if_pos hj])]
      exact ⟨False.elim, fun ⟨v', z, z2, _⟩ => by cases z; exact z2 hj⟩
    · rw [ev_op h (show oIald ty q (ls, .int x :: .ref a :: st, n, k, w) = some (q, ls, .int (f x.toNatClampNeg) :: st, n, k, w) by simp only [oIald, hv]; rw [if_neg hj])]
      exact ⟨fun z => ⟨(m, f), rfl, hj, z⟩, fun ⟨v', z, _, z'⟩ => by cases z; exact z'⟩
theorem ev_aald {ty : FieldType} (h : T i pc = .inl (oAald ty q)) {a : Nat} {x : Int32} : gEv T i pc ls (.int x :: .ref a :: st) n k w Q ↔ ∃ mf, garq ty (w a) = some mf ∧ vp_in x mf.1 ∧ gEv T i q ls (va_rf (mf.2 x.toNatClampNeg) :: st) n k w Q := by
  cases hv : garq ty (w a) with
  | none =>
    rw [ev_no h (by simp only [oAald, hv])]
    exact ⟨False.elim, fun ⟨v, z, _⟩ => by cases z⟩
  | some mf =>
    obtain ⟨m, f⟩ := mf
    by_cases hj : x < 0 ∨ m ≤ x.toNatClampNeg
    · rw [ev_no h (by simp only [oAald, hv]; rw [if_pos hj])]
      exact ⟨False.elim, fun ⟨v', z, z2, _⟩ => by cases z; exact z2 hj⟩
    · rw [ev_op h (show oAald ty q (ls, .int x :: .ref a :: st, n, k, w) = some (q, ls, va_rf (f x.toNatClampNeg) :: st, n, k, w) by simp only [oAald, hv]; rw [if_neg hj])]
      exact ⟨fun z => ⟨(m, f), rfl, hj, z⟩, fun ⟨v', z, _, z'⟩ => by cases z; exact z'⟩
theorem ev_iast (h : T i pc = .inl (oIast q)) {a : Nat} {x y : Int32} : gEv T i pc ls (.int y :: .int x :: .ref a :: st) n k w Q ↔ ∃ mf, garr .int (w a) = some mf ∧ vp_in x mf.1 ∧ gEv T i q ls st n k (va_up w a (.inl (.int, mf.1, .inl (upd mf.2 x.toNatClampNeg y)))) Q := by
  cases hv : garr .int (w a) with
  | none =>
    rw [ev_no h (by simp only [oIast, hv])]
    exact ⟨False.elim, fun ⟨v, z, _⟩ => by cases z⟩
  | some mf =>
    obtain ⟨m, f⟩ := mf
    by_cases hj : x < 0 ∨ m ≤ x.toNatClampNeg
    · rw [ev_no h (by simp only [oIast, hv]; rw [if_pos hj])]
      exact ⟨False.elim, fun ⟨v', z, z2, _⟩ => by cases z; exact z2 hj⟩
    · rw [ev_op h (show oIast q (ls, .int y :: .int x :: .ref a :: st, n, k, w) = some (q, ls, st, n, k, va_up w a (.inl (.int, m, .inl (upd f x.toNatClampNeg y)))) by simp only [oIast, hv]; rw [if_neg hj])]
      exact ⟨fun z => ⟨(m, f), rfl, hj, z⟩, fun ⟨v', z, _, z'⟩ => by cases z; exact z'⟩
theorem ev_zast (h : T i pc = .inl (oZast q)) {a : Nat} {x y : Int32} : gEv T i pc ls (.int y :: .int x :: .ref a :: st) n k w Q ↔ ∃ mf, garr .boolean (w a) = some mf ∧ vp_in x mf.1 ∧ gEv T i q ls st n k (va_up w a (.inl (.boolean, mf.1, .inl (upd mf.2 x.toNatClampNeg (vp_nar .boolean y))))) Q := by
  cases hv : garr .boolean (w a) with
  | none =>
    rw [ev_no h (by simp only [oZast, hv])]
    exact ⟨False.elim, fun ⟨v, z, _⟩ => by cases z⟩
  | some mf =>
    obtain ⟨m, f⟩ := mf
    by_cases hj : x < 0 ∨ m ≤ x.toNatClampNeg
    · rw [ev_no h (by simp only [oZast, hv]; rw [if_pos hj])]
      exact ⟨False.elim, fun ⟨v', z, z2, _⟩ => by cases z; exact z2 hj⟩
    · rw [ev_op h (show oZast q (ls, .int y :: .int x :: .ref a :: st, n, k, w) = some (q, ls, st, n, k, va_up w a (.inl (.boolean, m, .inl (upd f x.toNatClampNeg (vp_nar .boolean y))))) by simp only [oZast, hv]; rw [if_neg hj])]
      exact ⟨fun z => ⟨(m, f), rfl, hj, z⟩, fun ⟨v', z, _, z'⟩ => by cases z; exact z'⟩
theorem ev_aast {ty : FieldType} (h : T i pc = .inl (oAast ty c q)) {a y : Nat} {x : Int32} : gEv T i pc ls (.ref y :: .int x :: .ref a :: st) n k w Q ↔ ∃ fs mf, gobj c (w y) = some fs ∧ garq ty (w a) = some mf ∧ vp_in x mf.1 ∧ gEv T i q ls st n k (va_up w a (.inl (ty, mf.1, .inr (.inr (.inr (.inr (va_up mf.2 x.toNatClampNeg (some y)))))))) Q := by
  cases hu : gobj c (w y) with
  | none =>
    rw [ev_no h (by simp only [oAast, hu])]
    exact ⟨False.elim, fun ⟨_, _, z, _⟩ => by cases z⟩
  | some fs =>
    cases hv : garq ty (w a) with
    | none =>
      rw [ev_no h (by simp only [oAast, hu, hv])]
      exact ⟨False.elim, fun ⟨_, _, _, z, _⟩ => by cases z⟩
    | some mf =>
      obtain ⟨m, f⟩ := mf
      by_cases hj : x < 0 ∨ m ≤ x.toNatClampNeg
      · rw [ev_no h (by simp only [oAast, hu, hv]; rw [if_pos hj])]
        exact ⟨False.elim, fun ⟨_, v', _, z, z2, _⟩ => by cases z; exact z2 hj⟩
      · rw [ev_op h (show oAast ty c q (ls, .ref y :: .int x :: .ref a :: st, n, k, w) = some (q, ls, st, n, k, va_up w a (.inl (ty, m, .inr (.inr (.inr (.inr (va_up f x.toNatClampNeg (some y)))))))) by simp only [oAast, hu, hv]; rw [if_neg hj])]
        exact ⟨fun z => ⟨fs, (m, f), rfl, rfl, hj, z⟩, fun ⟨_, v', _, z, _, z'⟩ => by cases z; exact z'⟩
theorem ev_len {ty : FieldType} (h : T i pc = .inl (oLen ty q)) {a : Nat} : gEv T i pc ls (.ref a :: st) n k w Q ↔ ∃ m, glen ty (w a) = some m ∧ gEv T i q ls (.int (Int32.ofNat m) :: st) n k w Q := by
  cases hv : glen ty (w a) with
  | none =>
    rw [ev_no h (by simp only [oLen, hv])]
    exact ⟨False.elim, fun ⟨v, z, _⟩ => by cases z⟩
  | some m =>
    rw [ev_op h (show oLen ty q (ls, .ref a :: st, n, k, w) = some (q, ls, .int (Int32.ofNat m) :: st, n, k, w) by simp only [oLen, hv])]
    exact ⟨fun z => ⟨m, rfl, z⟩, fun ⟨v', z, z'⟩ => by cases z; exact z'⟩
theorem ev_copy (h : T i pc = .inl (oCopy q)) {a b : Nat} {sp dp m : Int32} : gEv T i pc ls (.int m :: .int dp :: .ref b :: .int sp :: .ref a :: st) n k w Q ↔ ∃ mf mg, garr .int (w a) = some mf ∧ garr .int (w b) = some mg ∧ (gcat st ≤ 8 ∧ ¬ sp < 0 ∧ ¬ dp < 0 ∧ ¬ m < 0 ∧ sp.toNatClampNeg + m.toNatClampNeg ≤ mf.1 ∧ dp.toNatClampNeg + m.toNatClampNeg ≤ mg.1) ∧ gEv T i q ls st n k (va_up w b (.inl (.int, mg.1, .inl (va_cpy mf.2 mg.2 sp.toNatClampNeg dp.toNatClampNeg m.toNatClampNeg)))) Q := by
  cases hu : garr .int (w a) with
  | none =>
    rw [ev_no h (by simp only [oCopy, hu])]
    exact ⟨False.elim, fun ⟨_, _, z, _⟩ => by cases z⟩
  | some mf =>
    obtain ⟨n0, f⟩ := mf
    cases hv : garr .int (w b) with
    | none =>
      rw [ev_no h (by simp only [oCopy, hu, hv])]
      exact ⟨False.elim, fun ⟨_, _, _, z, _⟩ => by cases z⟩
    | some mg =>
      obtain ⟨n1, g⟩ := mg
      by_cases hj : gcat st ≤ 8 ∧ ¬ sp < 0 ∧ ¬ dp < 0 ∧ ¬ m < 0 ∧ sp.toNatClampNeg + m.toNatClampNeg ≤ n0 ∧ dp.toNatClampNeg + m.toNatClampNeg ≤ n1
      · rw [ev_op h (show oCopy q (ls, .int m :: .int dp :: .ref b :: .int sp :: .ref a :: st, n, k, w) = some (q, ls, st, n, k, va_up w b (.inl (.int, n1, .inl (va_cpy f g sp.toNatClampNeg dp.toNatClampNeg m.toNatClampNeg)))) by simp only [oCopy, hu, hv]; rw [if_pos hj])]
        exact ⟨fun z => ⟨(n0, f), (n1, g), rfl, rfl, hj, z⟩, fun ⟨_, _, z1, z2, _, z'⟩ => by cases z1; cases z2; exact z'⟩
      · rw [ev_no h (by simp only [oCopy, hu, hv]; rw [if_neg hj])]
        exact ⟨False.elim, fun ⟨_, _, z1, z2, z3, _⟩ => by cases z1; cases z2; exact hj z3⟩
theorem ev_init (h : T i pc = .inl (oInit q)) {a : Nat} : gEv T i pc ls (.ref a :: st) n k w Q ↔ (gcat st ≤ 8 ∧ gEv T i q ls st n k w Q) := by
  by_cases hy : gcat st ≤ 8
  · rw [ev_op h (show oInit q (ls, .ref a :: st, n, k, w) = some (q, ls, st, n, k, w) by simp only [oInit]; rw [if_pos hy])]
    exact ⟨fun z => ⟨hy, z⟩, fun z => z.2⟩
  · rw [ev_no h (by simp only [oInit]; rw [if_neg hy])]
    exact ⟨False.elim, fun z => hy z.1⟩
theorem ev_mx {f : Int32 → Int32 → Int32} (h : T i pc = .inl (oMx f q)) {x y : Int32} : gEv T i pc ls (.int y :: .int x :: st) n k w Q ↔ (gcat st ≤ 8 ∧ gEv T i q ls (.int (f x y) :: st) n k w Q) := by
  by_cases hy : gcat st ≤ 8
  · rw [ev_op h (show oMx f q (ls, .int y :: .int x :: st, n, k, w) = some (q, ls, .int (f x y) :: st, n, k, w) by simp only [oMx]; rw [if_pos hy])]
    exact ⟨fun z => ⟨hy, z⟩, fun z => z.2⟩
  · rw [ev_no h (by simp only [oMx]; rw [if_neg hy])]
    exact ⟨False.elim, fun z => hy z.1⟩
theorem ev_sw {f : Int32 → Nat} (h : T i pc = .inl (oSw f)) {x : Int32} : gEv T i pc ls (.int x :: st) n k w Q ↔ gEv T i (f x) ls st n k w Q := ev_op h rfl
theorem ev_sLen {X : gX} (h : T i pc = .inl (oSLen X q)) : gEv T i pc ls (.retAddr 0 :: st) n k w Q ↔ gEv T i q ls (.int (Int32.ofNat X.1) :: st) n k w Q := ev_op h rfl
theorem ev_sLd {X : gX} (h : T i pc = .inl (oSLd X q)) {x : Int32} : gEv T i pc ls (.int x :: .retAddr 0 :: st) n k w Q ↔ (vp_in x X.1 ∧ gEv T i q ls (.int (X.2 x.toNatClampNeg) :: st) n k w Q) := by
  by_cases hj : x < 0 ∨ X.1 ≤ x.toNatClampNeg
  · rw [ev_no h (by simp only [oSLd]; rw [if_pos hj])]
    exact ⟨False.elim, fun z => z.1 hj⟩
  · rw [ev_op h (show oSLd X q (ls, .int x :: .retAddr 0 :: st, n, k, w) = some (q, ls, .int (X.2 x.toNatClampNeg) :: st, n, k, w) by simp only [oSLd]; rw [if_neg hj])]
    exact ⟨fun z => ⟨hj, z⟩, fun z => z.2⟩
theorem ev_kVal (h : T i pc = .inl (oKVal q)) (hj : j < 5) : gEv T i pc ls (.retAddr (j + 1) :: st) n k w Q ↔ gEv T i q ls (.retAddr (j + 11) :: st) n k w Q := ev_op h (by simp only [oKVal]; rw [if_pos hj])
theorem ev_kCod (h : T i pc = .inl (oKCod q)) (hj : j < 5) : gEv T i pc ls (.retAddr (j + 1) :: st) n k w Q ↔ gEv T i q ls (.int 0 :: st) n k w Q := ev_op h (by simp only [oKCod]; rw [if_pos hj])
theorem ev_kLen (h : T i pc = .inl (oKLen q)) (hj : j < 5) : gEv T i pc ls (.retAddr (j + 11) :: st) n k w Q ↔ gEv T i q ls (.int (Int32.ofNat (glens.getD j 0)) :: st) n k w Q := ev_op h (by simp only [oKLen]; rw [if_pos hj])
theorem ev_kLd (h : T i pc = .inl (oKLd q)) {x : Int32} (hj : j < 5) (hx : vp_in x (glens.getD j 0)) : gEv T i pc ls (.int x :: .retAddr (j + 11) :: st) n k w Q ↔ gEv T i q ls (.int ((gbyt.getD j []).getD x.toNatClampNeg 0) :: st) n k w Q := ev_op h (by simp only [oKLd]; rw [if_pos ⟨hj, hx⟩])
end EW
