/-! THE ORDER: the first of the cheapest, by search and by the planner's table -/
abbrev OB : Type := Option (Nat × List Nat)
def omn : OB → OB → OB
  | none, y => y
  | some a, none => some a
  | some a, some b => if b.1 < a.1 then some b else some a
theorem omn_no (a : OB) : omn a none = a := by cases a <;> rfl
theorem omn_ss (a b : Nat × List Nat) : omn (some a) (some b) = if b.1 < a.1 then some b else some a := rfl
theorem omn_as (a b c : OB) : omn (omn a b) c = omn a (omn b c) := by
  cases a with
  | none => rfl
  | some a =>
    cases b with
    | none => rfl
    | some b =>
      cases c with
      | none => rw [omn_no, omn_no]
      | some c =>
        rw [omn_ss a b, omn_ss b c]
        by_cases h1 : b.1 < a.1
        · by_cases h2 : c.1 < b.1
          · rw [if_pos h1, if_pos h2, omn_ss, omn_ss, if_pos h2, if_pos (by omega)]
          · rw [if_pos h1, if_neg h2, omn_ss, omn_ss, if_neg h2, if_pos h1]
        · by_cases h2 : c.1 < b.1
          · rw [if_neg h1, if_pos h2]
          · rw [if_neg h1, if_neg h2, omn_ss, omn_ss, if_neg h1, if_neg (by omega)]
/-- the price of a list of tests behind those passed -/
def pPR (cs sp : Nat → Nat) : List Nat → Nat → Nat
  | [], _ => 0
  | t :: r, p => pPR cs sp r (p ||| 2 ^ t) + sp p * cs t
def bP (V : List (Nat × Nat)) (cs sp : Nat → Nat) (p : Nat) : List (List Nat) → OB
  | [] => none
  | l :: r => omn (if rAb V l p = true then some (pPR cs sp l p, l) else none) (bP V cs sp p r)
def omp (k x : Nat) (e : Nat × List Nat) : Nat × List Nat := (e.1 + k, x :: e.2)
def bF (g : Nat → OB) : List Nat → OB
  | [] => none
  | x :: r => omn (g x) (bF g r)
def bG (g : Nat → OB) : Nat → Nat → OB
  | _, 0 => none
  | j, D + 1 => omn (g j) (bG g (j + 1) D)
/-- the tests that a set lacks, from j on -/
def lcp (p : Nat) : Nat → Nat → List Nat
  | _, 0 => []
  | j, D + 1 => if p.testBit j = true then lcp p (j + 1) D else j :: lcp p (j + 1) D
section OA
variable {V : List (Nat × Nat)} {cs sp : Nat → Nat} {p N : Nat}
theorem bP_app : ∀ (a b : List (List Nat)), bP V cs sp p (a ++ b) = omn (bP V cs sp p a) (bP V cs sp p b) := by
  intro a
  induction a with
  | nil => intro b; rfl
  | cons l r ih => intro b; rw [List.cons_append, bP, ih, bP, omn_as]
theorem bP_mem : ∀ (ps : List (List Nat)) (e : Nat × List Nat), bP V cs sp p ps = some e → e.2 ∈ ps ∧ e.1 = pPR cs sp e.2 p := by
  intro ps
  induction ps with
  | nil => intro e h; cases h
  | cons l r ih =>
    intro e h
    rw [bP] at h
    have hr : bP V cs sp p r = some e → e.2 ∈ l :: r ∧ e.1 = pPR cs sp e.2 p := fun z => ⟨List.mem_cons_of_mem _ (ih e z).1, (ih e z).2⟩
    by_cases q : rAb V l p = true
    · rw [if_pos q] at h
      cases hb : bP V cs sp p r with
      | none =>
        rw [hb, omn_no] at h
        cases h
        exact ⟨List.mem_cons_self, rfl⟩
      | some f =>
        rw [hb, omn_ss] at h
        split at h
        · cases h; exact hr hb
        · cases h; exact ⟨List.mem_cons_self, rfl⟩
    · rw [if_neg q] at h
      exact hr h
theorem omn_map (k x : Nat) (a b : OB) : omn (a.map (omp k x)) (b.map (omp k x)) = (omn a b).map (omp k x) := by
  cases a with
  | none => rfl
  | some a =>
    cases b with
    | none => rfl
    | some b =>
      show omn (some (omp k x a)) (some (omp k x b)) = _
      rw [omn_ss, omn_ss]
      unfold omp
      by_cases h : b.1 < a.1
      · rw [if_pos h, if_pos (by dsimp only; omega)]; rfl
      · rw [if_neg h, if_neg (by dsimp only; omega)]; rfl
theorem bP_map {x : Nat} : ∀ (ps : List (List Nat)), bP V cs sp p (ps.map (fun r => x :: r)) = if pone (vkf V p (2 ^ x)) then (bP V cs sp (p ||| 2 ^ x) ps).map (omp (sp p * cs x) x) else none := by
  intro ps
  induction ps with
  | nil =>
    by_cases q : pone (vkf V p (2 ^ x))
    · rw [if_pos q]; rfl
    · rw [if_neg q]; rfl
  | cons l r ih =>
    rw [List.map_cons, bP, ih]
    by_cases q : pone (vkf V p (2 ^ x))
    · rw [if_pos q, if_pos q, bP, ← omn_map]
      congr 1
      rw [rAb, decide_eq_true q, Bool.true_and, pPR]
      by_cases z : rAb V l (p ||| 2 ^ x) = true
      · rw [if_pos z, if_pos z]; rfl
      · rw [if_neg z, if_neg z]; rfl
    · rw [if_neg q, if_neg q, omn_no, rAb, decide_eq_false q, Bool.false_and]
      rfl
theorem bP_fl (G : Nat → List (List Nat)) : ∀ (l : List Nat), bP V cs sp p (l.flatMap G) = bF (fun x => bP V cs sp p (G x)) l := by
  intro l
  induction l with
  | nil => rfl
  | cons x r ih => rw [List.flatMap_cons, bP_app, ih]; rfl
theorem bF_congr {g g' : Nat → OB} : ∀ (l : List Nat), (∀ x, x ∈ l → g x = g' x) → bF g l = bF g' l := by
  intro l
  induction l with
  | nil => intro _; rfl
  | cons x r ih => intro h; rw [bF, bF, h x List.mem_cons_self, ih (fun y hy => h y (List.mem_cons_of_mem _ hy))]
theorem bF_mem {g : Nat → OB} {e : Nat × List Nat} : ∀ (l : List Nat), bF g l = some e → ∃ x, x ∈ l ∧ g x = some e := by
  intro l
  induction l with
  | nil => intro h; cases h
  | cons x r ih =>
    intro h
    rw [bF] at h
    have hr : bF g r = some e → ∃ y, y ∈ x :: r ∧ g y = some e := fun z => by
      obtain ⟨y, h1, h2⟩ := ih z
      exact ⟨y, List.mem_cons_of_mem _ h1, h2⟩
    cases hx : g x with
    | none => rw [hx] at h; exact hr h
    | some a =>
      rw [hx] at h
      cases hb : bF g r with
      | none => rw [hb, omn_no] at h; cases h; exact ⟨x, List.mem_cons_self, hx⟩
      | some b =>
        rw [hb, omn_ss] at h
        split at h
        · cases h; exact hr hb
        · cases h; exact ⟨x, List.mem_cons_self, hx⟩
theorem bF_lcp {g : Nat → OB} : ∀ (D j : Nat), bF g (lcp p j D) = bG (fun x => if p.testBit x = true then none else g x) j D := by
  intro D
  induction D with
  | zero => intro j; rfl
  | succ D ih =>
    intro j
    rw [lcp, bG]
    by_cases q : p.testBit j = true
    · rw [if_pos q, if_pos q, ih]; rfl
    · rw [if_neg q, if_neg q, bF, ih]
theorem lcp_mem {t : Nat} : ∀ (D j : Nat), t ∈ lcp p j D ↔ (j ≤ t ∧ t < j + D ∧ p.testBit t = false) := by
  intro D
  induction D with
  | zero => intro j; exact ⟨fun h => (by cases h), fun h => (by omega)⟩
  | succ D ih =>
    intro j
    rw [lcp]
    cases q : p.testBit j with
    | true =>
      rw [if_pos rfl, ih]
      constructor
      · rintro ⟨h1, h2, h3⟩; exact ⟨by omega, by omega, h3⟩
      · rintro ⟨h1, h2, h3⟩
        have : t ≠ j := fun e => by rw [e, q] at h3; cases h3
        exact ⟨by omega, by omega, h3⟩
    | false =>
      rw [if_neg (by decide), List.mem_cons, ih]
      constructor
      · rintro (h | ⟨h1, h2, h3⟩)
        · rw [h]; exact ⟨by omega, by omega, q⟩
        · exact ⟨by omega, by omega, h3⟩
      · rintro ⟨h1, h2, h3⟩
        by_cases e : t = j
        · exact Or.inl e
        · exact Or.inr ⟨by omega, by omega, h3⟩
theorem or_bit {x i : Nat} : (p ||| 2 ^ x).testBit i = (p.testBit i || decide (x = i)) := by rw [Nat.testBit_or, Nat.testBit_two_pow]
theorem lcp_up {x : Nat} : ∀ (D j : Nat), x < j → lcp (p ||| 2 ^ x) j D = lcp p j D := by
  intro D
  induction D with
  | zero => intro j _; rfl
  | succ D ih =>
    intro j h
    rw [lcp, lcp, ih (j + 1) (by omega), or_bit, decide_eq_false (by omega), Bool.or_false]
theorem lcp_er {x : Nat} (hx : p.testBit x = false) : ∀ (D j : Nat), j ≤ x → x < j + D → (lcp p j D).erase x = lcp (p ||| 2 ^ x) j D ∧ (lcp (p ||| 2 ^ x) j D).length + 1 = (lcp p j D).length := by
  intro D
  induction D with
  | zero => intro j h1 h2; omega
  | succ D ih =>
    intro j h1 h2
    rw [lcp, lcp]
    by_cases e : j = x
    · subst e
      rw [hx, or_bit, hx, decide_eq_true rfl, Bool.false_or, if_neg (by decide), if_pos rfl, List.erase_cons_head, lcp_up D (j + 1) (by omega)]
      exact ⟨rfl, rfl⟩
    · obtain ⟨i1, i2⟩ := ih (j + 1) (by omega) (by omega)
      rw [or_bit, decide_eq_false (fun z => e z.symm), Bool.or_false]
      by_cases q : p.testBit j = true
      · rw [if_pos q, if_pos q]; exact ⟨i1, i2⟩
      · rw [if_neg q, if_neg q, List.erase_cons_tail (by simpa using e), i1, List.length_cons, List.length_cons, i2]
        exact ⟨rfl, rfl⟩
theorem lcp_len : ∀ (D j : Nat), (lcp p j D).length ≤ D := by
  intro D
  induction D with
  | zero => intro j; exact Nat.le_refl _
  | succ D ih =>
    intro j
    have := ih (j + 1)
    rw [lcp]
    split
    · omega
    · rw [List.length_cons]; omega
end OA
theorem lcp_0 : ∀ N, N < 7 → lcp 0 0 N = List.range N := by decide +kernel
theorem lcp_all : ∀ N, N < 7 → lcp (2 ^ N - 1) 0 N = [] := by decide +kernel
theorem lcp_ne : ∀ N, N < 7 → ∀ p, p < 64 → p < 2 ^ N → ¬ p = 2 ^ N - 1 → ¬ (lcp p 0 N).length = 0 := by decide +kernel
theorem gpm_len : ∀ (f : Nat) (l m : List Nat), m ∈ gpm f l → m.length = f := by
  intro f
  induction f with
  | zero => intro l m h; rw [gpm, List.mem_singleton] at h; rw [h]; rfl
  | succ f ih =>
    intro l m h
    rw [gpm, List.mem_flatMap] at h
    obtain ⟨x, _, h2⟩ := h
    obtain ⟨r, h3, h4⟩ := List.mem_map.mp h2
    rw [← h4, List.length_cons, ih _ _ h3]
def bB (V : List (Nat × Nat)) (cs sp : Nat → Nat) (N p : Nat) : OB := bP V cs sp p (gpm (lcp p 0 N).length (lcp p 0 N))
section OB
variable {V : List (Nat × Nat)} {cs sp : Nat → Nat} {p N : Nat}
theorem bB_all (h : lcp p 0 N = []) : bB V cs sp N p = if pone (vkf V p 0) then some (0, []) else none := by
  unfold bB
  rw [h]
  show omn (if rAb V [] p = true then some (pPR cs sp [] p, []) else none) none = _
  rw [omn_no, rAb]
  by_cases q : pone (vkf V p 0)
  · rw [decide_eq_true q, if_pos rfl, if_pos q]; rfl
  · rw [decide_eq_false q, if_neg (by decide), if_neg q]
/-- the best that begins with a test -/
def bg1 (V : List (Nat × Nat)) (cs sp : Nat → Nat) (N p x : Nat) : OB := if pone (vkf V p (2 ^ x)) then (bB V cs sp N (p ||| 2 ^ x)).map (omp (sp p * cs x) x) else none
theorem bB_step (h : ¬ (lcp p 0 N).length = 0) : bB V cs sp N p = bF (bg1 V cs sp N p) (lcp p 0 N) := by
  obtain ⟨f, hf⟩ : ∃ f, (lcp p 0 N).length = f + 1 := ⟨(lcp p 0 N).length - 1, by omega⟩
  unfold bB
  rw [hf, gpm, bP_fl]
  refine bF_congr _ (fun x hx => ?_)
  obtain ⟨h1, h2, h3⟩ := (lcp_mem N 0).mp hx
  obtain ⟨e1, e2⟩ := lcp_er h3 N 0 h1 h2
  rw [bP_map, e1]
  unfold bg1 bB
  rw [show (lcp (p ||| 2 ^ x) 0 N).length = f by omega]
theorem pPR_le (hc : ∀ t, cs t ≤ 9) (hs : ∀ p, sp p ≤ 600) : ∀ (l : List Nat) (p : Nat), pPR cs sp l p ≤ 5400 * l.length := by
  intro l
  induction l with
  | nil => intro p; exact Nat.le_refl _
  | cons t r ih =>
    intro p
    rw [pPR, List.length_cons]
    have h1 := ih (p ||| 2 ^ t)
    have h2 : sp p * cs t ≤ 600 * 9 := Nat.mul_le_mul (hs p) (hc t)
    omega
theorem bB_bd (hc : ∀ t, cs t ≤ 9) (hs : ∀ p, sp p ≤ 600) (hN : N ≤ 6) {e : Nat × List Nat} (h : bB V cs sp N p = some e) : e.1 ≤ 32400 ∧ e.2.length = (lcp p 0 N).length := by
  obtain ⟨h1, h2⟩ := bP_mem _ _ h
  have h3 := gpm_len _ _ _ h1
  have h4 := pPR_le hc hs e.2 p
  have h5 := lcp_len (p := p) N 0
  exact ⟨by omega, h3⟩
/-- what the table says of a set -/
def oE (s : (Nat → Int32) × (Nat → Int32)) (p : Nat) (o : OB) : Prop := match o with
  | none => s.1 p = -9
  | some e => s.1 p = nI e.1 ∧ e.1 < 100000 ∧ ∀ t r, e.2 = t :: r → s.2 p = nI t
theorem nI_m9 {m : Nat} (h : m < 100000) : ¬ nI m = -9 := fun z => by
  have h1 := congrArg Int32.toInt z
  rw [nI_toInt (by omega)] at h1
  have h2 : (-9 : Int32).toInt = -9 := by decide
  omega
theorem pps_ok (hc : ∀ t, cs t ≤ 9) (hs : ∀ p, sp p ≤ 600) (hN : N ≤ 6) {co : Nat → Int32} {S : Int32} (hS : S = nI (sp p)) {t : Nat} (hco : co t = nI (cs t)) {s : (Nat → Int32) × (Nat → Int32)} {o : OB} (ho : oE s p o) (hq : p.testBit t = false → oE s (p ||| 2 ^ t) (bB V cs sp N (p ||| 2 ^ t))) : oE (pps V co p S t s) p (omn o (if p.testBit t = true then none else bg1 V cs sp N p t)) ∧ ∀ q, q ≠ p → (pps V co p S t s).1 q = s.1 q ∧ (pps V co p S t s).2 q = s.2 q := by
  have stay : ppr V co s.1 p t S = -9 → pps V co p S t s = s := by
    intro h
    unfold pps
    rw [if_neg (fun z => z.1 h)]
  cases ht : p.testBit t with
  | true =>
    have e1 : p ||| 2 ^ t = p := by
      apply Nat.eq_of_testBit_eq
      intro i
      rw [or_bit]
      by_cases q : t = i
      · rw [← q, ht]; rfl
      · rw [decide_eq_false q, Bool.or_false]
    have e2 : ppr V co s.1 p t S = -9 := by unfold ppr; rw [if_pos (Or.inl e1)]
    rw [stay e2, if_pos rfl, omn_no]
    exact ⟨ho, fun q _ => ⟨rfl, rfl⟩⟩
  | false =>
    have hne : ¬ p ||| 2 ^ t = p := fun z => by
      have := congrArg (fun y => y.testBit t) z
      try dsimp only at this
      rw [or_bit, ht, decide_eq_true rfl] at this
      cases this
    have hB := hq ht
    rw [if_neg (by decide)]
    unfold bg1
    cases hb : bB V cs sp N (p ||| 2 ^ t) with
    | none =>
      rw [hb] at hB
      have e2 : ppr V co s.1 p t S = -9 := by unfold ppr; rw [if_pos (Or.inr (show s.1 (p ||| 2 ^ t) = -9 from hB))]
      rw [stay e2]
      have e3 : (if pone (vkf V p (2 ^ t)) then Option.map (omp (sp p * cs t) t) (none : OB) else none) = none := by
        by_cases z : pone (vkf V p (2 ^ t))
        · rw [if_pos z]; rfl
        · rw [if_neg z]
      rw [e3, omn_no]
      exact ⟨ho, fun q _ => ⟨rfl, rfl⟩⟩
    | some e =>
      rw [hb] at hB
      obtain ⟨b1, b2, b3⟩ := hB
      have hbd := (bB_bd hc hs hN hb).1
      have n9 : ¬ s.1 (p ||| 2 ^ t) = -9 := by rw [b1]; exact nI_m9 b2
      by_cases z : pone (vkf V p (2 ^ t))
      · have hv : sp p * cs t ≤ 600 * 9 := Nat.mul_le_mul (hs p) (hc t)
        have e2 : ppr V co s.1 p t S = nI (e.1 + sp p * cs t) := by
          unfold ppr
          rw [if_neg (fun y => y.elim hne n9), if_pos z, b1, hS, hco, pk_mul, nI_add]
        have e9 : ¬ nI (e.1 + sp p * cs t) = -9 := nI_m9 (by omega)
        rw [if_pos z]
        have e4 : Option.map (omp (sp p * cs t) t) (some e) = some (e.1 + sp p * cs t, t :: e.2) := rfl
        rw [e4]
        have up : (s.1 p = -9 ∨ nI (e.1 + sp p * cs t) < s.1 p) → pps V co p S t s = (upd s.1 p (nI (e.1 + sp p * cs t)), upd s.2 p (nI t)) := by
          intro y
          unfold pps
          rw [e2, if_pos ⟨e9, y⟩]
        have un : ¬ (s.1 p = -9 ∨ nI (e.1 + sp p * cs t) < s.1 p) → pps V co p S t s = s := by
          intro y
          unfold pps
          rw [e2, if_neg (fun x => y x.2)]
        have new : oE (upd s.1 p (nI (e.1 + sp p * cs t)), upd s.2 p (nI t)) p (some (e.1 + sp p * cs t, t :: e.2)) := by
          refine ⟨upd_eq', by dsimp only; omega, ?_⟩
          intro t' r' h
          dsimp only at h ⊢
          rw [upd_eq', (List.cons.inj h).1]
        have oth : ∀ q, q ≠ p → (upd s.1 p (nI (e.1 + sp p * cs t))) q = s.1 q ∧ (upd s.2 p (nI t)) q = s.2 q := fun q hq => ⟨upd_ne' hq, upd_ne' hq⟩
        cases o with
        | none =>
          rw [up (Or.inl ho)]
          exact ⟨new, oth⟩
        | some a =>
          obtain ⟨a1, a2, a3⟩ := ho
          rw [omn_ss]
          dsimp only
          by_cases y : e.1 + sp p * cs t < a.1
          · rw [if_pos y, up (Or.inr (by rw [a1]; exact nI_lt y (by omega)))]
            exact ⟨new, oth⟩
          · have hno : ¬ (s.1 p = -9 ∨ nI (e.1 + sp p * cs t) < s.1 p) := by
              rintro (x | x)
              · rw [a1] at x; exact nI_m9 a2 x
              · rw [a1] at x; exact nI_nlt (by omega) (by omega) x
            rw [if_neg y, un hno]
            exact ⟨⟨a1, a2, a3⟩, fun q _ => ⟨rfl, rfl⟩⟩
      · have e2 : ppr V co s.1 p t S = -9 := by
          unfold ppr
          rw [if_neg (fun y => y.elim hne n9), if_neg z]
        rw [stay e2, if_neg z, omn_no]
        exact ⟨ho, fun q _ => ⟨rfl, rfl⟩⟩
theorem oE_eq {s s' : (Nat → Int32) × (Nat → Int32)} {q : Nat} {o : OB} (h : oE s q o) (h1 : s'.1 q = s.1 q) (h2 : s'.2 q = s.2 q) : oE s' q o := by
  cases o with
  | none => exact h1.trans h
  | some e => exact ⟨h1.trans h.1, h.2.1, fun t r z => h2.trans (h.2.2 t r z)⟩
theorem or_gt {t : Nat} (ht : p.testBit t = false) : p < p ||| 2 ^ t := by
  have h1 : p ≤ p ||| 2 ^ t := Nat.left_le_or
  have h2 : p ≠ p ||| 2 ^ t := fun z => by
    have := congrArg (fun y => y.testBit t) z
    try dsimp only at this
    rw [or_bit, ht, decide_eq_true rfl] at this
    cases this
  omega
theorem ppb_ok (hc : ∀ t, cs t ≤ 9) (hN : N ≤ 6) {co : Nat → Int32} {sh : Nat → Nat} {K : Nat} (hs : ∀ p, psh sh (vkf V p 0) 0 K 0 ≤ 600) (hco : ∀ t, t < N → co t = nI (cs t)) (hp : p < 2 ^ N) {s : (Nat → Int32) × (Nat → Int32)} (hq : ∀ q, p < q → q < 2 ^ N → oE s q (bB V cs (fun p => psh sh (vkf V p 0) 0 K 0) N q)) : oE (ppb V co sh K N p s) p (bB V cs (fun p => psh sh (vkf V p 0) 0 K 0) N p) ∧ ∀ q, q ≠ p → (ppb V co sh K N p s).1 q = s.1 q ∧ (ppb V co sh K N p s).2 q = s.2 q := by
  have h64 := gp2_64 hN
  unfold ppb
  by_cases qa : p = 2 ^ N - 1
  · rw [if_pos qa, bB_all (by rw [qa]; exact lcp_all N (by omega))]
    refine ⟨?_, fun q hq => ⟨upd_ne' hq, rfl⟩⟩
    by_cases z : pone (vkf V p 0)
    · rw [if_pos z, if_pos z]
      exact ⟨upd_eq', by dsimp only; omega, fun t r h => by cases h⟩
    · rw [if_neg z, if_neg z]
      exact upd_eq'
  · rw [if_neg qa, bB_step (lcp_ne N (by omega) p (by omega) hp qa), bF_lcp]
    have loop : ∀ (D j : Nat) (s' : (Nat → Int32) × (Nat → Int32)) (o : OB), j + D = N → oE s' p o → (∀ q, q ≠ p → s'.1 q = s.1 q ∧ s'.2 q = s.2 q) → oE (gfor (pps V co p (nI (psh sh (vkf V p 0) 0 K 0))) j D s') p (omn o (bG (fun x => if p.testBit x = true then none else bg1 V cs (fun p => psh sh (vkf V p 0) 0 K 0) N p x) j D)) ∧ ∀ q, q ≠ p → (gfor (pps V co p (nI (psh sh (vkf V p 0) 0 K 0))) j D s').1 q = s.1 q ∧ (gfor (pps V co p (nI (psh sh (vkf V p 0) 0 K 0))) j D s').2 q = s.2 q := by
      intro D
      induction D with
      | zero => intro j s' o _ ho hk; rw [bG, omn_no]; exact ⟨ho, hk⟩
      | succ D ih =>
        intro j s' o hj ho hk
        rw [gfor, bG, ← omn_as]
        obtain ⟨g1, g2⟩ := pps_ok (V := V) (cs := cs) (sp := fun p => psh sh (vkf V p 0) 0 K 0) (N := N) (p := p) hc hs hN (co := co) (S := nI (psh sh (vkf V p 0) 0 K 0)) rfl (t := j) (hco j (by omega)) ho (fun hb => by
          have hgt := or_gt hb
          have hlt : p ||| 2 ^ j < 2 ^ N := or_lt hp (Nat.pow_lt_pow_right (by omega) (by omega))
          have hk' := hk (p ||| 2 ^ j) (by omega)
          exact oE_eq (hq _ hgt hlt) hk'.1 hk'.2)
        exact ih (j + 1) _ _ (by omega) g1 (fun q hq => ⟨(g2 q hq).1.trans (hk q hq).1, (g2 q hq).2.trans (hk q hq).2⟩)
    exact loop N 0 (upd s.1 p (-9), s.2) none (by omega) upd_eq' (fun q hq => ⟨upd_ne' hq, rfl⟩)
theorem pdp_ok (hc : ∀ t, cs t ≤ 9) (hN : N ≤ 6) {co : Nat → Int32} {sh : Nat → Nat} {K : Nat} (hs : ∀ p, psh sh (vkf V p 0) 0 K 0 ≤ 600) (hco : ∀ t, t < N → co t = nI (cs t)) : ∀ (D i : Nat) (s : (Nat → Int32) × (Nat → Int32)), i + D = 2 ^ N → (∀ q, D ≤ q → q < 2 ^ N → oE s q (bB V cs (fun p => psh sh (vkf V p 0) 0 K 0) N q)) → ∀ q, q < 2 ^ N → oE (pdp V co sh K N i D s) q (bB V cs (fun p => psh sh (vkf V p 0) 0 K 0) N q) := by
  intro D
  induction D with
  | zero => intro i s _ h q hq; exact h q (by omega) hq
  | succ D ih =>
    intro i s hi h
    have e : pdp V co sh K N i (D + 1) s = pdp V co sh K N (i + 1) D (ppb V co sh K N (2 ^ N - 1 - i) s) := rfl
    rw [e, show 2 ^ N - 1 - i = D by omega]
    obtain ⟨g1, g2⟩ := ppb_ok (V := V) (cs := cs) (p := D) hc hN (sh := sh) (K := K) hs hco (by omega) (s := s) (fun q h1 h2 => h q (by omega) h2)
    refine ih (i + 1) _ (by omega) (fun q h1 h2 => ?_)
    by_cases z : q = D
    · rw [z]; exact g1
    · exact oE_eq (h q (by omega) h2) (g2 q z).1 (g2 q z).2
/-- the path: behind the first test of the best order stands the best order of the rest -/
theorem bB_tl (hc : ∀ t, cs t ≤ 9) (hs : ∀ p, sp p ≤ 600) (hN : N ≤ 6) {v x : Nat} {r : List Nat} (h : bB V cs sp N p = some (v, x :: r)) : x < N ∧ p.testBit x = false ∧ ∃ v', bB V cs sp N (p ||| 2 ^ x) = some (v', r) := by
  have hl := (bB_bd hc hs hN h).2
  rw [List.length_cons] at hl
  rw [bB_step (by omega)] at h
  obtain ⟨y, h1, h2⟩ := bF_mem _ h
  obtain ⟨g1, g2, g3⟩ := (lcp_mem N 0).mp h1
  unfold bg1 at h2
  by_cases z : pone (vkf V p (2 ^ y))
  · rw [if_pos z] at h2
    cases hb : bB V cs sp N (p ||| 2 ^ y) with
    | none => rw [hb] at h2; cases h2
    | some e =>
      rw [hb] at h2
      have h3 : (e.1 + sp p * cs y, y :: e.2) = (v, x :: r) := Option.some.inj h2
      have h4 := List.cons.inj (Prod.mk.inj h3).2
      obtain ⟨e1, e2⟩ := e
      obtain ⟨rfl, rfl⟩ := h4
      exact ⟨by omega, g3, e1, hb⟩
  · rw [if_neg z] at h2; cases h2
theorem ppl_at (hc : ∀ t, cs t ≤ 9) (hs : ∀ p, sp p ≤ 600) (hN : N ≤ 6) {s : (Nat → Int32) × (Nat → Int32)} (hd : ∀ q, q < 2 ^ N → oE s q (bB V cs sp N q)) : ∀ (i p v : Nat) (l : List Nat), bB V cs sp N p = some (v, l) → i < l.length → p < 2 ^ N → ppl s.2 (fun q => (s.2 q).toNatClampNeg) i p < 2 ^ N ∧ s.2 (ppl s.2 (fun q => (s.2 q).toNatClampNeg) i p) = nI (l.getD i 0) ∧ l.getD i 0 < N := by
  intro i
  induction i with
  | zero =>
    intro p v l h hi hp
    cases l with
    | nil => exact absurd hi (by simp)
    | cons x r =>
      have h1 := hd p hp
      rw [h] at h1
      obtain ⟨h2, _, _⟩ := bB_tl hc hs hN h
      exact ⟨hp, h1.2.2 x r rfl, h2⟩
  | succ i ih =>
    intro p v l h hi hp
    cases l with
    | nil => exact absurd hi (by simp)
    | cons x r =>
      have h1 := hd p hp
      rw [h] at h1
      obtain ⟨h2, h3, v', h4⟩ := bB_tl hc hs hN h
      have e := h1.2.2 x r rfl
      have ez : (s.2 p).toNatClampNeg = x := by rw [e, nI_clamp (by omega)]
      have hlt : p ||| 2 ^ x < 2 ^ N := or_lt hp (Nat.pow_lt_pow_right (by omega) (by omega))
      have := ih (p ||| 2 ^ x) v' r h4 (by rw [List.length_cons] at hi; omega) hlt
      rw [ppl, ez]
      exact this
/-- the search through all orders stands at its best -/
def oM (o : OB) (le : Int32) (b : List Nat) : Prop := match o with
  | none => le = -9
  | some e => le = nI e.1 ∧ e.1 < 100000 ∧ b = e.2
theorem mfo_ok {nw : Nat → Int32} {We : Nat → Nat} {K : Nat} : ∀ (ps : List (List Nat)), (∀ l, l ∈ ps → ((¬ mfl nw (-9) 0 We K l = 0) ↔ rAb V l 0 = true) ∧ mpl nw (-9) 0 We K l = nI (pPR cs sp l 0) ∧ pPR cs sp l 0 < 100000) → ∀ (o : OB) (le : Int32) (b : List Nat), oM o le b → oM (omn o (bP V cs sp 0 ps)) (mfo nw (-9) 0 We K ps le b).1 (mfo nw (-9) 0 We K ps le b).2 := by
  intro ps
  induction ps with
  | nil => intro _ o le b h; rw [bP, omn_no]; exact h
  | cons l r ih =>
    intro hl o le b h
    obtain ⟨h1, h2, h3⟩ := hl l List.mem_cons_self
    have ih' := ih (fun m hm => hl m (List.mem_cons_of_mem _ hm))
    rw [bP, ← omn_as, mfo]
    by_cases q : rAb V l 0 = true
    · have q' := h1.mpr q
      rw [if_pos q]
      have take : (le = -9 ∨ mpl nw (-9) 0 We K l < le) → (if ¬ mfl nw (-9) 0 We K l = 0 ∧ (le = -9 ∨ mpl nw (-9) 0 We K l < le) then mfo nw (-9) 0 We K r (mpl nw (-9) 0 We K l) l else mfo nw (-9) 0 We K r le b) = mfo nw (-9) 0 We K r (mpl nw (-9) 0 We K l) l := fun y => if_pos ⟨q', y⟩
      have leave : ¬ (le = -9 ∨ mpl nw (-9) 0 We K l < le) → (if ¬ mfl nw (-9) 0 We K l = 0 ∧ (le = -9 ∨ mpl nw (-9) 0 We K l < le) then mfo nw (-9) 0 We K r (mpl nw (-9) 0 We K l) l else mfo nw (-9) 0 We K r le b) = mfo nw (-9) 0 We K r le b := fun y => if_neg (fun z => y z.2)
      cases o with
      | none =>
        rw [take (Or.inl h)]
        exact ih' (some (pPR cs sp l 0, l)) _ _ ⟨h2, h3, rfl⟩
      | some a =>
        obtain ⟨a1, a2, a3⟩ := h
        rw [omn_ss]
        dsimp only
        by_cases y : pPR cs sp l 0 < a.1
        · rw [if_pos y, take (Or.inr (by rw [h2, a1]; exact nI_lt y (by omega)))]
          exact ih' (some (pPR cs sp l 0, l)) _ _ ⟨h2, h3, rfl⟩
        · rw [if_neg y, leave (by
            rintro (x | x)
            · rw [a1] at x; exact nI_m9 a2 x
            · rw [h2, a1] at x; exact nI_nlt (by omega) (by omega) x)]
          exact ih' (some a) _ _ ⟨a1, a2, a3⟩
    · rw [if_neg q, omn_no, if_neg (fun z => q (h1.mp z.1))]
      exact ih' o le b h
end OB
