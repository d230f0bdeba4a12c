/-! ROWS THAT ARE CHANGED -/
section RO
variable {nw nw' kr ts co co' : Nat → Int32} {kc tc rm jm rm' jm' : Int32} {K N : Nat}
theorem rgs_congr {row row' : Nat → Int32} (h : rgs row K N) (hK : K ≤ 6) (hN : N ≤ 6) (he : ∀ z, z < 50 → row' z = row z) : rgs row' K N := by
  obtain ⟨h1, h2⟩ := h
  refine ⟨fun c hc => ?_, fun t ht => ?_⟩
  · rw [he _ (by omega), he _ (by omega), he _ (by omega), he _ (by omega), he _ (by omega)]
    exact h1 c hc
  · rw [he _ (by omega), he _ (by omega), he _ (by omega)]
    exact h2 t ht
theorem tRl_hi (h : tRl nw kr ts co kc tc rm jm K N) (he : ∀ z, z < 50 → nw' z = nw z) (h50 : rm' = nw' 50) (hb : ∀ b, b < 7 → co' b = nw' (51 + b)) (h58 : jm' = nw' 58) : tRl nw' kr ts co' kc tc rm' jm' K N := by
  obtain ⟨a1, a2, a3, a4, a5, a6, a7, a8, a9, a10, a11, a12⟩ := h
  exact ⟨a1, a2, by rw [he _ (by omega), a3], a4, by rw [he _ (by omega), a5], a6, fun c hc f hf => by rw [he _ (by omega), a7 c hc f hf], fun t ht f hf => by rw [he _ (by omega), a8 t ht f hf], h50, hb, h58, rgs_congr a12 a1 a2 he⟩
theorem mem_z {z : Nat} (h1 : 51 ≤ z) (h2 : z < 58) : mempty nw z = 0 := by
  unfold mempty
  rw [upd_ne' (by omega), mrng_in h1 h2]
theorem mem_58 : mempty nw 58 = -9 := by
  unfold mempty
  rw [upd_eq']
theorem gz_b {b : Nat} (h : b < 7) : gz co b = 0 := by
  have : ∀ (D j : Nat) (f : Nat → Int32) (b : Nat), (j ≤ b ∧ b < j + D ∨ f b = 0) → gfor (fun i c => upd c i 0) j D f b = 0 := by
    intro D
    induction D with
    | zero => intro j f b h; rcases h with h | h; omega; exact h
    | succ D ih =>
      intro j f b h
      rw [gfor]
      refine ih (j + 1) _ b ?_
      by_cases q : b = j
      · right; rw [q, upd_eq']
      · rcases h with h | h
        · left; omega
        · right; rw [upd_ne' q]; exact h
  exact this 7 0 co b (Or.inl (by omega))
theorem gct_eq {a b : Nat} (ha : a < 6) (hb : b < 6) (hab : a ≠ b) : gct ts (nI a) (nI b) = mrng (3 * b) (3 * b + 3) (fun z => ts (3 * a + (z - 3 * b))) ts := by
  have e : gct ts (nI a) (nI b) = gup (gup (gup ts 18 (nI b * 3 + nI 0) (gof ts 18 (nI a * 3 + nI 0))) 18 (nI b * 3 + nI 1) (gof (gup ts 18 (nI b * 3 + nI 0) (gof ts 18 (nI a * 3 + nI 0))) 18 (nI a * 3 + nI 1))) 18 (nI b * 3 + nI 2) (gof (gup (gup ts 18 (nI b * 3 + nI 0) (gof ts 18 (nI a * 3 + nI 0))) 18 (nI b * 3 + nI 1) (gof (gup ts 18 (nI b * 3 + nI 0) (gof ts 18 (nI a * 3 + nI 0))) 18 (nI a * 3 + nI 1))) 18 (nI a * 3 + nI 2)) := rfl
  rw [e, nI3, nI3, nI_add, nI_add, nI_add, nI_add, nI_add, nI_add]
  rw [gof_at (i := 3 * a + 0) (by omega) (by omega), gup_at (i := 3 * b + 0) (by omega) (by omega)]
  rw [gof_at (i := 3 * a + 1) (by omega) (by omega), upd_ne' (by omega), gup_at (i := 3 * b + 1) (by omega) (by omega)]
  rw [gof_at (i := 3 * a + 2) (by omega) (by omega), upd_ne' (by omega), upd_ne' (by omega), gup_at (i := 3 * b + 2) (by omega) (by omega)]
  funext z
  unfold mrng upd
  by_cases q2 : z = 3 * b + 2
  · rw [if_pos q2, if_pos (by omega), q2]
    congr 1
    omega
  · rw [if_neg q2]
    by_cases q1 : z = 3 * b + 1
    · rw [if_pos q1, if_pos (by omega), q1]
      congr 1
      omega
    · rw [if_neg q1]
      by_cases q0 : z = 3 * b + 0
      · rw [if_pos q0, if_pos (by omega), q0]
        congr 1
        omega
      · rw [if_neg q0, if_neg (by omega)]
theorem ins_eq {p : Nat} (hN : N < 6) (hp : p ≤ N) : ∀ (D i : Nat), i + D = N - p → gfor (fun i ts => gct ts (nI (N - i - 1)) (nI (N - i))) i D (mrng (3 * (N - i + 1)) (3 * (N + 1)) (fun z => ts (z - 3)) ts) = mrng (3 * (p + 1)) (3 * (N + 1)) (fun z => ts (z - 3)) ts := by
  intro D
  induction D with
  | zero => intro i hi; rw [gfor, show N - i = p by omega]
  | succ D ih =>
    intro i hi
    have h := ih (i + 1) (by omega)
    rw [gfor, gct_eq (by omega) (by omega) (by omega)]
    rw [show N - (i + 1) + 1 = N - i by omega] at h
    rw [← h]
    congr 1
    funext z
    unfold mrng
    dsimp only
    by_cases q : 3 * (N - i) ≤ z ∧ z < 3 * (N - i) + 3
    · rw [if_pos q, if_neg (by omega), if_pos (by omega)]
      congr 1
      omega
    · rw [if_neg q]
      by_cases q2 : 3 * (N - i + 1) ≤ z ∧ z < 3 * (N + 1)
      · rw [if_pos q2, if_pos (by omega)]
      · rw [if_neg q2, if_neg (by omega)]
theorem rem_eq {p : Nat} (hN : N ≤ 6) (hp : p < N) : ∀ (D i : Nat), p ≤ i → i + D = N - 1 → gfor (fun i ts => gct ts (nI (i + 1)) (nI i)) i D (mrng (3 * p) (3 * i) (fun z => ts (z + 3)) ts) = mrng (3 * p) (3 * (N - 1)) (fun z => ts (z + 3)) ts := by
  intro D
  induction D with
  | zero => intro i hi hi2; rw [gfor, show i = N - 1 by omega]
  | succ D ih =>
    intro i hi hi2
    have h := ih (i + 1) (by omega) (by omega)
    rw [gfor, gct_eq (by omega) (by omega) (by omega), ← h]
    congr 1
    funext z
    unfold mrng
    dsimp only
    by_cases q : 3 * i ≤ z ∧ z < 3 * i + 3
    · rw [if_pos q, if_neg (by omega), if_pos (by omega)]
      congr 1
      omega
    · rw [if_neg q]
      by_cases q2 : 3 * p ≤ z ∧ z < 3 * i
      · rw [if_pos q2, if_pos (by omega)]
      · rw [if_neg q2, if_neg (by omega)]
theorem tRl_puts (h : tRl nw kr ts co kc tc rm jm K N) {p : Nat} (hN : N < 6) (hp : p ≤ N) {so b c : Int32} (h2 : 0 ≤ so ∧ so ≤ 2) (h3 : gbd so b) (h4 : 1 ≤ c ∧ c ≤ 9) : tRl (mputs nw p N so b c) kr (upd (upd (upd (mrng (3 * (p + 1)) (3 * (N + 1)) (fun z => ts (z - 3)) ts) (3 * p) so) (3 * p + 1) b) (3 * p + 2) c) (gz co) kc (nI (N + 1)) rm (-9) K (N + 1) := by
  obtain ⟨a1, a2, a3, a4, a5, a6, a7, a8, a9, a10, a11, a12, a13⟩ := h
  have lo : ∀ z, z < 51 → mputs nw p N so b c z = if z = 31 then nI (N + 1) else if z = 3 * p + 34 then c else if z = 3 * p + 33 then b else if z = 3 * p + 32 then so else if 3 * p + 35 ≤ z ∧ z < 50 then nw (z - 3) else nw z := by
    intro z hz
    unfold mputs
    rw [mempty_lo hz]
    rfl
  have lo1 : ∀ z, z < 31 → mputs nw p N so b c z = nw z := by
    intro z hz
    rw [lo z (by omega), if_neg (by omega), if_neg (by omega), if_neg (by omega), if_neg (by omega), if_neg (by omega)]
  have tst : ∀ t, t < N + 1 → ∀ f, f < 3 → mputs nw p N so b c (3 * t + f + 32) = if t < p then nw (3 * t + f + 32) else if t = p then (if f = 0 then so else if f = 1 then b else c) else nw (3 * (t - 1) + f + 32) := by
    intro t ht f hf
    rw [lo _ (by omega), if_neg (by omega)]
    by_cases q1 : t < p
    · rw [if_pos q1, if_neg (by omega), if_neg (by omega), if_neg (by omega), if_neg (by omega)]
    · rw [if_neg q1]
      by_cases q2 : t = p
      · rw [if_pos q2]
        by_cases f0 : f = 0
        · rw [if_pos f0, if_neg (by omega), if_neg (by omega), if_pos (by omega)]
        · rw [if_neg f0]
          by_cases f1 : f = 1
          · rw [if_pos f1, if_neg (by omega), if_pos (by omega)]
          · rw [if_neg f1, if_pos (by omega)]
      · rw [if_neg q2, if_neg (by omega), if_neg (by omega), if_neg (by omega), if_pos (by omega), show 3 * t + f + 32 - 3 = 3 * (t - 1) + f + 32 by omega]
  have tsn : ∀ t, t < N + 1 → ∀ f, f < 3 → upd (upd (upd (mrng (3 * (p + 1)) (3 * (N + 1)) (fun z => ts (z - 3)) ts) (3 * p) so) (3 * p + 1) b) (3 * p + 2) c (3 * t + f) = if t < p then ts (3 * t + f) else if t = p then (if f = 0 then so else if f = 1 then b else c) else ts (3 * (t - 1) + f) := by
    intro t ht f hf
    unfold upd mrng
    dsimp only
    by_cases q1 : t < p
    · rw [if_pos q1, if_neg (by omega), if_neg (by omega), if_neg (by omega), if_neg (by omega)]
    · rw [if_neg q1]
      by_cases q2 : t = p
      · rw [if_pos q2]
        by_cases f0 : f = 0
        · rw [if_pos f0, if_neg (by omega), if_neg (by omega), if_pos (by omega)]
        · rw [if_neg f0]
          by_cases f1 : f = 1
          · rw [if_pos f1, if_neg (by omega), if_pos (by omega)]
          · rw [if_neg f1, if_pos (by omega)]
      · rw [if_neg q2, if_neg (by omega), if_neg (by omega), if_neg (by omega), if_pos (by omega), show 3 * t + f - 3 = 3 * (t - 1) + f by omega]
  refine ⟨a1, by omega, by rw [lo1 0 (by omega), a3], a4, by rw [lo 31 (by omega), if_pos rfl], rfl, fun c hc f hf => by rw [lo1 _ (by omega), a7 c hc f hf], ?_, ?_, ?_, ?_, ?_, ?_⟩
  · intro t ht f hf
    rw [tst t ht f hf, tsn t ht f hf]
    by_cases q1 : t < p
    · rw [if_pos q1, if_pos q1, a8 t (by omega) f hf]
    · rw [if_neg q1, if_neg q1]
      by_cases q2 : t = p
      · rw [if_pos q2, if_pos q2]
      · rw [if_neg q2, if_neg q2, a8 (t - 1) (by omega) f hf]
  · rw [lo 50 (by omega), if_neg (by omega), if_neg (by omega), if_neg (by omega), if_neg (by omega), if_neg (by omega), a9]
  · intro b hb
    rw [gz_b hb]
    unfold mputs
    rw [mem_z (by omega) (by omega)]
  · unfold mputs
    rw [mem_58]
  · intro c hc
    rw [lo1 _ (by omega), lo1 _ (by omega), lo1 _ (by omega), lo1 _ (by omega), lo1 _ (by omega)]
    exact a12 c hc
  · intro t ht
    have t0 := tst t ht 0 (by omega)
    have t1 := tst t ht 1 (by omega)
    have t2 := tst t ht 2 (by omega)
    rw [show 3 * t + 0 + 32 = 3 * t + 32 by omega] at t0
    rw [show 3 * t + 1 + 32 = 3 * t + 33 by omega] at t1
    rw [show 3 * t + 2 + 32 = 3 * t + 34 by omega] at t2
    rw [t0, t1, t2]
    by_cases q1 : t < p
    · rw [if_pos q1, if_pos q1, if_pos q1]
      exact a13 t (by omega)
    · rw [if_neg q1, if_neg q1, if_neg q1]
      by_cases q2 : t = p
      · rw [if_pos q2, if_pos q2, if_pos q2]
        refine ⟨inR_of (lo := 0) (hi := 2) (by omega) (by omega) h2, ?_, inR_of (lo := 1) (hi := 9) (by omega) (by omega) h4⟩
        unfold gbd at h3
        by_cases qs : so = 2
        · rw [if_pos qs, if_pos qs] at h3
          obtain ⟨m, e, g1, g2⟩ := inR_of (lo := 0) (hi := 2) (by omega) (by omega) h3
          exact ⟨m, e, by omega, by omega⟩
        · rw [if_neg qs, if_neg qs] at h3
          obtain ⟨m, e, g1, g2⟩ := inR_of (lo := 1) (hi := 99) (by omega) (by omega) h3
          exact ⟨m, e, by omega, by omega⟩
      · rw [if_neg q2, if_neg q2, if_neg q2]
        exact a13 (t - 1) (by omega)
theorem tRl_takes (h : tRl nw kr ts co kc tc rm jm K N) {p : Nat} (hp : p < N) : tRl (mtakes nw p N) kr (mrng (3 * p) (3 * (N - 1)) (fun z => ts (z + 3)) ts) (gz co) kc (nI (N - 1)) rm (-9) K (N - 1) := by
  obtain ⟨a1, a2, a3, a4, a5, a6, a7, a8, a9, a10, a11, a12, a13⟩ := h
  have lo : ∀ z, z < 51 → mtakes nw p N z = if z = 31 then nI (N - 1) else if 3 * p + 32 ≤ z ∧ z < 47 then nw (z + 3) else nw z := by
    intro z hz
    unfold mtakes
    rw [mempty_lo hz]
    rfl
  have lo1 : ∀ z, z < 31 → mtakes nw p N z = nw z := by
    intro z hz
    rw [lo z (by omega), if_neg (by omega), if_neg (by omega)]
  have tst : ∀ t, t < N - 1 → ∀ f, f < 3 → mtakes nw p N (3 * t + f + 32) = if t < p then nw (3 * t + f + 32) else nw (3 * (t + 1) + f + 32) := by
    intro t ht f hf
    rw [lo _ (by omega), if_neg (by omega)]
    by_cases q1 : t < p
    · rw [if_pos q1, if_neg (by omega)]
    · rw [if_neg q1, if_pos (by omega), show 3 * t + f + 32 + 3 = 3 * (t + 1) + f + 32 by omega]
  refine ⟨a1, by omega, by rw [lo1 0 (by omega), a3], a4, by rw [lo 31 (by omega), if_pos rfl], rfl, fun c hc f hf => by rw [lo1 _ (by omega), a7 c hc f hf], ?_, ?_, ?_, ?_, ?_, ?_⟩
  · intro t ht f hf
    rw [tst t ht f hf]
    unfold mrng
    dsimp only
    by_cases q1 : t < p
    · rw [if_pos q1, if_neg (by omega), a8 t (by omega) f hf]
    · rw [if_neg q1, if_pos (by omega), show 3 * t + f + 3 = 3 * (t + 1) + f by omega, a8 (t + 1) (by omega) f hf]
  · rw [lo 50 (by omega), if_neg (by omega), if_neg (by omega), a9]
  · intro b hb
    rw [gz_b hb]
    unfold mtakes
    rw [mem_z (by omega) (by omega)]
  · unfold mtakes
    rw [mem_58]
  · intro c hc
    rw [lo1 _ (by omega), lo1 _ (by omega), lo1 _ (by omega), lo1 _ (by omega), lo1 _ (by omega)]
    exact a12 c hc
  · intro t ht
    have t0 := tst t ht 0 (by omega)
    have t1 := tst t ht 1 (by omega)
    have t2 := tst t ht 2 (by omega)
    rw [show 3 * t + 0 + 32 = 3 * t + 32 by omega] at t0
    rw [show 3 * t + 1 + 32 = 3 * t + 33 by omega] at t1
    rw [show 3 * t + 2 + 32 = 3 * t + 34 by omega] at t2
    rw [t0, t1, t2]
    by_cases q1 : t < p
    · rw [if_pos q1, if_pos q1, if_pos q1]
      exact a13 t (by omega)
    · rw [if_neg q1, if_neg q1, if_neg q1]
      exact a13 (t + 1) (by omega)
theorem tRl_sets (h : tRl nw kr ts co kc tc rm jm K N) {t : Nat} (ht : t < N) {b : Int32} (hb : inR b 0 99) : tRl (mempty (upd nw (3 * t + 33) b)) kr (upd ts (3 * t + 1) b) (gz co) kc tc rm (-9) K N := by
  obtain ⟨a1, a2, a3, a4, a5, a6, a7, a8, a9, a10, a11, a12, a13⟩ := h
  have lo : ∀ z, z < 51 → mempty (upd nw (3 * t + 33) b) z = if z = 3 * t + 33 then b else nw z := by
    intro z hz
    rw [mempty_lo hz]
    rfl
  refine ⟨a1, a2, by rw [lo 0 (by omega), if_neg (by omega), a3], a4, by rw [lo 31 (by omega), if_neg (by omega), a5], a6, fun c hc f hf => by rw [lo _ (by omega), if_neg (by omega), a7 c hc f hf], ?_, by rw [lo 50 (by omega), if_neg (by omega), a9], ?_, by rw [mem_58], ?_, ?_⟩
  · intro t' ht' f hf
    rw [lo _ (by omega)]
    unfold upd
    by_cases q : 3 * t' + f = 3 * t + 1
    · rw [if_pos q, if_pos (by omega)]
    · rw [if_neg q, if_neg (by omega), a8 t' ht' f hf]
  · intro b hb
    rw [gz_b hb, mem_z (by omega) (by omega)]
  · intro c hc
    rw [lo _ (by omega), if_neg (by omega), lo _ (by omega), if_neg (by omega), lo _ (by omega), if_neg (by omega), lo _ (by omega), if_neg (by omega), lo _ (by omega), if_neg (by omega)]
    exact a12 c hc
  · intro t' ht'
    rw [lo (3 * t' + 32) (by omega), if_neg (by omega), lo (3 * t' + 34) (by omega), if_neg (by omega), lo (3 * t' + 33) (by omega)]
    obtain ⟨g1, g2, g3⟩ := a13 t' ht'
    refine ⟨g1, ?_, g3⟩
    by_cases q : t' = t
    · rw [if_pos (by omega)]; exact hb
    · rw [if_neg (by omega)]; exact g2
theorem tRl_adds (h : tRl nw kr ts co kc tc rm jm K N) (hK : K < 6) {a b c r : Int32} (hk : gkd a b c r) : tRl (madds nw K a b c r) (upd (upd (upd (upd (upd kr (5 * K) a) (5 * K + 1) b) (5 * K + 2) c) (5 * K + 3) r) (5 * K + 4) 1) ts co (nI (K + 1)) tc rm jm (K + 1) N := by
  obtain ⟨a1, a2, a3, a4, a5, a6, a7, a8, a9, a10, a11, a12, a13⟩ := h
  have lo : ∀ z, madds nw K a b c r z = if z = 0 then nI (K + 1) else if z = 5 * K + 5 then 1 else if z = 5 * K + 4 then r else if z = 5 * K + 3 then c else if z = 5 * K + 2 then b else if z = 5 * K + 1 then a else nw z := fun z => rfl
  have hi : ∀ z, 31 ≤ z → madds nw K a b c r z = nw z := by
    intro z hz
    rw [lo, if_neg (by omega), if_neg (by omega), if_neg (by omega), if_neg (by omega), if_neg (by omega), if_neg (by omega)]
  have old : ∀ c', c' < K → ∀ f, f < 5 → madds nw K a b c r (5 * c' + f + 1) = nw (5 * c' + f + 1) := by
    intro c' hc' f hf
    rw [lo, if_neg (by omega), if_neg (by omega), if_neg (by omega), if_neg (by omega), if_neg (by omega), if_neg (by omega)]
  refine ⟨by omega, a2, by rw [lo 0, if_pos rfl], rfl, by rw [hi 31 (by omega), a5], a6, ?_, fun t ht f hf => by rw [hi _ (by omega), a8 t ht f hf], by rw [hi 50 (by omega), a9], fun b hb => by rw [hi _ (by omega), a10 b hb], by rw [hi 58 (by omega), a11], ?_, ?_⟩
  · intro c' hc' f hf
    by_cases q : c' = K
    · subst q
      have hf5 : f = 0 ∨ f = 1 ∨ f = 2 ∨ f = 3 ∨ f = 4 := by omega
      rcases hf5 with rfl | rfl | rfl | rfl | rfl
      · show upd _ _ _ (5 * c') = madds nw c' a b c r (5 * c' + 1)
        rw [upd_ne' (by omega), upd_ne' (by omega), upd_ne' (by omega), upd_ne' (by omega), upd_eq', lo, if_neg (by omega), if_neg (by omega), if_neg (by omega), if_neg (by omega), if_neg (by omega), if_pos rfl]
      · show upd _ _ _ (5 * c' + 1) = madds nw c' a b c r (5 * c' + 2)
        rw [upd_ne' (by omega), upd_ne' (by omega), upd_ne' (by omega), upd_eq', lo, if_neg (by omega), if_neg (by omega), if_neg (by omega), if_neg (by omega), if_pos rfl]
      · show upd _ _ _ (5 * c' + 2) = madds nw c' a b c r (5 * c' + 3)
        rw [upd_ne' (by omega), upd_ne' (by omega), upd_eq', lo, if_neg (by omega), if_neg (by omega), if_neg (by omega), if_pos rfl]
      · show upd _ _ _ (5 * c' + 3) = madds nw c' a b c r (5 * c' + 4)
        rw [upd_ne' (by omega), upd_eq', lo, if_neg (by omega), if_neg (by omega), if_pos rfl]
      · show upd _ _ _ (5 * c' + 4) = madds nw c' a b c r (5 * c' + 5)
        rw [upd_eq', lo, if_neg (by omega), if_pos rfl]
    · rw [old c' (by omega) f hf, ← a7 c' (by omega) f hf, upd_ne' (by omega), upd_ne' (by omega), upd_ne' (by omega), upd_ne' (by omega), upd_ne' (by omega)]
  · intro c' hc'
    by_cases q : c' = K
    · subst q
      obtain ⟨k1, k2, k3, k4, k5⟩ := hk
      rw [lo (5 * c' + 1), if_neg (by omega), if_neg (by omega), if_neg (by omega), if_neg (by omega), if_neg (by omega), if_pos rfl]
      rw [lo (5 * c' + 2), if_neg (by omega), if_neg (by omega), if_neg (by omega), if_neg (by omega), if_pos rfl]
      rw [lo (5 * c' + 3), if_neg (by omega), if_neg (by omega), if_neg (by omega), if_pos rfl]
      rw [lo (5 * c' + 4), if_neg (by omega), if_neg (by omega), if_pos rfl]
      rw [lo (5 * c' + 5), if_neg (by omega), if_pos rfl]
      have i2 := inR_of (lo := 1) (hi := 99) (by omega) (by omega) k2
      obtain ⟨v, ev, v1, v2⟩ := i2
      obtain ⟨r', er, r1, r2⟩ := inR_of (lo := 0) (hi := 9) (by omega) (by omega) k4
      refine ⟨inR_of (lo := 1) (hi := 99) (by omega) (by omega) k1, ⟨v, ev, v1, v2⟩, inR_of (lo := 0) (hi := 2) (by omega) (by omega) k3, ⟨r', v, er, ev, r2, ?_, v2⟩, ⟨1, rfl, by omega, by omega⟩⟩
      rw [er, ev] at k5
      by_cases q : r' < v
      · exact q
      · exact absurd k5 (nI_nlt (by omega) (by omega))
    · have o0 := old c' (by omega) 0 (by omega)
      have o1 := old c' (by omega) 1 (by omega)
      have o2 := old c' (by omega) 2 (by omega)
      have o3 := old c' (by omega) 3 (by omega)
      have o4 := old c' (by omega) 4 (by omega)
      rw [show 5 * c' + 0 + 1 = 5 * c' + 1 by omega] at o0
      rw [show 5 * c' + 1 + 1 = 5 * c' + 2 by omega] at o1
      rw [show 5 * c' + 2 + 1 = 5 * c' + 3 by omega] at o2
      rw [show 5 * c' + 3 + 1 = 5 * c' + 4 by omega] at o3
      rw [show 5 * c' + 4 + 1 = 5 * c' + 5 by omega] at o4
      rw [o0, o1, o2, o3, o4]
      exact a12 c' (by omega)
  · intro t ht
    rw [hi _ (by omega), hi _ (by omega), hi _ (by omega)]
    exact a13 t ht
end RO
