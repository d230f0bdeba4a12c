/-! WHAT BOTH SEE ALIKE -/
theorem gfst_congr {p q : Nat → Prop} [DecidablePred p] [DecidablePred q] : ∀ (D j : Nat), (∀ i, j ≤ i → i < j + D → (p i ↔ q i)) → gfst p j D = gfst q j D := by
  intro D
  induction D with
  | zero => intro j _; rfl
  | succ D ih =>
    intro j h
    rw [gfst, gfst]
    have h0 := h j (by omega) (by omega)
    by_cases z : p j
    · rw [if_pos z, if_pos (h0.mp z)]
    · rw [if_neg z, if_neg (fun y => z (h0.mpr y))]
      exact ih (j + 1) (fun i h1 h2 => h i (by omega) (by omega))
theorem gfor_congr {α : Type} {f g : Nat → α → α} : ∀ (D j : Nat) (a : α), (∀ i, j ≤ i → i < j + D → ∀ a, f i a = g i a) → gfor f j D a = gfor g j D a := by
  intro D
  induction D with
  | zero => intro j a _; rfl
  | succ D ih =>
    intro j a h
    rw [gfor, gfor, h j (by omega) (by omega)]
    exact ih (j + 1) _ (fun i h1 h2 => h i (by omega) (by omega))
theorem gsh_gsf : ∀ u, u < 13 → ∀ t, t < 6 → gsh (gsu u) t = gsf (mfz u) (mfb u) t := by decide +kernel
section SA
variable {nw kr ts co : Nat → Int32} {kc tc rm jm : Int32} {K N : Nat}
theorem p_bn (hR : tRl nw kr ts co kc tc rm jm K N) {u : Nat} (hu : u < 13) {d v e : Int32} : gbn ts (gsu u) N d v e = mbn nw (mfz u) (mfb u) (fun p => p) N d v e := by
  obtain ⟨hK, hN, r0, e1, r31, e2, rk, rt, e3, rc, e4, hrg⟩ := hR
  unfold gbn mbn
  refine gfst_congr N 0 (fun i _ hi => ?_)
  have h0 := rt i (by omega) 0 (by omega)
  have h1 := rt i (by omega) 1 (by omega)
  rw [Nat.add_zero] at h0
  rw [h0, h1, gsh_gsf u hu i (by omega)]
theorem p_bc (hR : tRl nw kr ts co kc tc rm jm K N) {u : Nat} (hu : u < 13) {c : Nat} (hc : c < K) {x : Int32} : gbc kr ts N (nI c) x (gsu u) = mbc nw (mfz u) (mfb u) (fun p => p) N c x := by
  have hR' := hR
  obtain ⟨hK, hN, r0, e1, r31, e2, rk, rt, e3, rc, e4, hrg⟩ := hR'
  have e0 : gof kr 30 (nI c * 5 + 0) = nw (5 * c + 1) := by rw [nI5, nIp0, gof_at (by omega) (by omega)]; exact rk c hc 0 (by omega)
  have e1 : gof kr 30 (nI c * 5 + 1) = nw (5 * c + 2) := by rw [nI5, nI_1, gof_at (by omega) (by omega)]; exact rk c hc 1 (by omega)
  have e2 : gof kr 30 (nI c * 5 + 2) = nw (5 * c + 3) := by rw [nI5, nIp2, gof_at (by omega) (by omega)]; exact rk c hc 2 (by omega)
  unfold gbc mbc
  rw [e0, e1, e2]
  exact p_bn hR hu
theorem p_bc1 (hR : tRl nw kr ts co kc tc rm jm K N) {c : Nat} (hc : c < K) {x : Int32} : gbc kr ts N (nI c) x (-1) = mbc nw (-9) 0 (fun p => p) N c x := p_bc (u := 0) hR (by omega) hc
theorem p_bs (hR : tRl nw kr ts co kc tc rm jm K N) {c : Nat} (hc : c < K) {wr : Nat} : gbs kr ts N (nI c) wr = mbs (fun x => mbc nw (-9) 0 (fun p => p) N c (nI x)) wr := by
  unfold gbs mbs
  refine gfor_congr _ _ _ (fun i _ _ a => ?_)
  rw [p_bc1 hR hc]
theorem p_tl (hR : tRl nw kr ts co kc tc rm jm K N) {b : Int32} : ∀ (D j : Nat) (a : Int32), j + D = N → gtl ts b j D a = mtl nw (fun p => p) b j D a := by
  have hR' := hR
  obtain ⟨hK, hN, r0, e1, r31, e2, rk, rt, e3, rc, e4, hrg⟩ := hR'
  intro D
  induction D with
  | zero => intro j a _; rfl
  | succ D ih =>
    intro j a hj
    rw [gtl, mtl, nI3, nIp2, gof_at (by omega) (by omega), rt j (by omega) 2 (by omega)]
    rw [ih (j + 1) _ (by omega)]
end SA
