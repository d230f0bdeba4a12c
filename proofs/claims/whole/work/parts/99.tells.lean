/-! THE TEXT IS TOLD -/
def vIt : List (Nat × (Nat → Nat)) → Nat → Nat → Prop
  | [], _, _ => True
  | (q, vs) :: r, K, N => ¬ pno K N q ∧ q ≤ 8 ∧ (∀ f, f < pln q → (pbd q vs f).1 ≤ vs f ∧ vs f ≤ (pbd q vs f).2) ∧ vIt r (pK q K) (pN q N)
theorem pbd_eq {q f : Nat} {vs vs' : Nat → Nat} (h : f = 3 → vs 1 = vs' 1) : pbd q vs f = pbd q vs' f := by
  by_cases h3 : f = 3
  · unfold pbd
    rw [h h3]
  · unfold pbd
    by_cases q4 : q = 4
    · rw [if_pos q4, if_pos q4]
      by_cases f0 : f = 0
      · rw [if_pos f0, if_pos f0]
      · rw [if_neg f0, if_neg f0]
        by_cases f1 : f = 1
        · rw [if_pos f1, if_pos f1]
        · rw [if_neg f1, if_neg f1]
          by_cases f2 : f = 2
          · rw [if_pos f2, if_pos f2]
          · rw [if_neg f2, if_neg f2, if_neg h3, if_neg h3]
    · rw [if_neg q4, if_neg q4]
theorem prd_ok (tv : Nat → Nat) (l q : Nat) : ∀ (D f : Nat) (vs : Nat → Nat) (p : Nat) (vs' : Nat → Nat) (e : Nat), prd tv l q D f vs p = .inr (vs', e) → (∀ z, z < f → vs' z = vs z) ∧ ∀ z, f ≤ z → z < f + D → (pbd q vs' z).1 ≤ vs' z ∧ vs' z ≤ (pbd q vs' z).2 := by
  intro D
  induction D with
  | zero =>
    intro f vs p vs' e h
    rw [prd] at h
    have := (Prod.mk.inj (Sum.inr.inj h)).1
    subst this
    exact ⟨fun _ _ => rfl, fun z h1 h2 => by omega⟩
  | succ D ih =>
    intro f vs p vs' e h
    rw [prd] at h
    by_cases q1 : tOk tv l (tSk tv l p) (pbd q vs f).1 (pbd q vs f).2
    · rw [if_pos q1] at h
      obtain ⟨h1, h2⟩ := ih _ _ _ _ _ h
      have hlow : ∀ z, z < f → vs' z = vs z := by
        intro z hz
        rw [h1 z (by omega)]
        unfold upn
        rw [if_neg (by omega)]
      refine ⟨hlow, fun z hz1 hz2 => ?_⟩
      by_cases e : z = f
      · subst e
        have hf : vs' z = tN tv l (tSk tv l p) := by
          rw [h1 z (by omega)]
          unfold upn
          rw [if_pos rfl]
        have hb : pbd q vs' z = pbd q vs z := pbd_eq (fun h3 => hlow 1 (by omega))
        rw [hb, hf]
        exact ⟨q1.2.1, q1.2.2⟩
      · exact h2 z (by omega) (by omega)
    · rw [if_neg q1] at h
      cases h
theorem pal_ok (tv : Nat → Nat) (l : Nat) : ∀ (F K N p : Nat) (r : List (Nat × (Nat → Nat))), pal tv l F K N p = .inr r → vIt r K N ∧ r.length < F := by
  intro F
  induction F with
  | zero => intro K N p r h; rw [pal] at h; cases h
  | succ F ih =>
    intro K N p r h
    rw [pal] at h
    by_cases q0 : tK tv l (tSk tv l p) = 0
    · rw [if_pos q0] at h
      cases h
      exact ⟨trivial, by simp⟩
    · rw [if_neg q0] at h
      cases hp : pit tv l K N (tK tv l (tSk tv l p)) (tSk tv l p) (tEn tv l (tSk tv l p)) with
      | inl f => rw [hp] at h; cases h
      | inr ve =>
        obtain ⟨vs, e⟩ := ve
        rw [hp] at h
        dsimp only at h
        by_cases q1 : tK tv l (tSk tv l e) = 1
        · rw [if_pos q1] at h
          cases hr : pal tv l F (pK (tK tv l (tSk tv l p)) K) (pN (tK tv l (tSk tv l p)) N) (tEn tv l (tSk tv l e)) with
          | inl f => rw [hr] at h; cases h
          | inr r' =>
            rw [hr] at h
            cases h
            obtain ⟨i1, i2⟩ := ih _ _ _ _ hr
            unfold pit at hp
            by_cases qn : pno K N (tK tv l (tSk tv l p))
            · rw [if_pos qn] at hp; cases hp
            · rw [if_neg qn] at hp
              obtain ⟨_, h2⟩ := prd_ok tv l _ _ _ _ _ _ _ hp
              refine ⟨⟨qn, tK_le tv l _, fun f hf => h2 f (by omega) (by omega), i1⟩, ?_⟩
              rw [List.length_cons]
              omega
        · rw [if_neg q1] at h; cases h
section TA
variable {rd dk dt co : Nat → Int32} {rm : Int32} {K N : Nat}
theorem tRl_coin (h : tRl rd dk dt co (nI K) (nI N) rm (-9) K N) (hK : K < 6) {vs : Nat → Nat} (hv : ∀ f, f < pln 4 → (pbd 4 vs f).1 ≤ vs f ∧ vs f ≤ (pbd 4 vs f).2) : tRl (mput rd 4 K N vs) (dpk dk 4 K vs) dt co (nI (K + 1)) (nI N) rm (-9) (K + 1) N := by
  obtain ⟨a1, a2, a3, a4, a5, a6, a7, a8, a9, a10, a11, a12, a13⟩ := h
  have v0 : 1 ≤ vs 0 ∧ vs 0 ≤ 99 := hv 0 (by decide)
  have v1 : 1 ≤ vs 1 ∧ vs 1 ≤ 99 := hv 1 (by decide)
  have v2 : 0 ≤ vs 2 ∧ vs 2 ≤ 2 := hv 2 (by decide)
  have v3 : 0 ≤ vs 3 ∧ vs 3 ≤ (if vs 1 ≤ 9 then vs 1 - 1 else 9) := hv 3 (by decide)
  have v4 : 0 ≤ vs 4 ∧ vs 4 ≤ 99 := hv 4 (by decide)
  have v3' : vs 3 ≤ 9 ∧ vs 3 < vs 1 := by
    have := v3.2
    split at this <;> omega
  have edk : dpk dk 4 K vs = upd (upd (upd (upd (upd dk (5 * K) (nI (vs 0))) (5 * K + 1) (nI (vs 1))) (5 * K + 2) (nI (vs 2))) (5 * K + 3) (nI (vs 3))) (5 * K + 4) (nI (vs 4)) := if_pos rfl
  have lo : ∀ z, mput rd 4 K N vs z = if z = 0 then nI (K + 1) else if z = 5 * K + 5 then nI (vs 4) else if z = 5 * K + 4 then nI (vs 3) else if z = 5 * K + 3 then nI (vs 2) else if z = 5 * K + 2 then nI (vs 1) else if z = 5 * K + 1 then nI (vs 0) else rd z := by
    intro z
    unfold mput
    rw [if_pos rfl]
    rfl
  rw [edk]
  have hi : ∀ z, 31 ≤ z → mput rd 4 K N vs z = rd z := by
    intro z hz
    rw [lo, if_neg (by omega), if_neg (by omega), if_neg (by omega), if_neg (by omega), if_neg (by omega), if_neg (by omega)]
  have old : ∀ c', c' < K → ∀ f, f < 5 → mput rd 4 K N vs (5 * c' + f + 1) = rd (5 * c' + f + 1) := by
    intro c' hc' f hf
    rw [lo, if_neg (by omega), if_neg (by omega), if_neg (by omega), if_neg (by omega), if_neg (by omega), if_neg (by omega)]
  refine ⟨by omega, a2, by rw [lo 0, if_pos rfl], rfl, by rw [hi 31 (by omega), a5], rfl, ?_, fun t ht f hf => by rw [hi _ (by omega), a8 t ht f hf], by rw [hi 50 (by omega), a9], fun b hb => by rw [hi _ (by omega), a10 b hb], by rw [hi 58 (by omega), a11], ?_, ?_⟩
  · intro c' hc' f hf
    by_cases q : c' = K
    · subst q
      have hf5 : f = 0 ∨ f = 1 ∨ f = 2 ∨ f = 3 ∨ f = 4 := by omega
      rcases hf5 with rfl | rfl | rfl | rfl | rfl
      · show upd _ _ _ (5 * c') = mput rd 4 c' N vs (5 * c' + 1)
        rw [upd_ne' (by omega), upd_ne' (by omega), upd_ne' (by omega), upd_ne' (by omega), upd_eq', lo, if_neg (by omega), if_neg (by omega), if_neg (by omega), if_neg (by omega), if_neg (by omega), if_pos rfl]
      · show upd _ _ _ (5 * c' + 1) = mput rd 4 c' N vs (5 * c' + 2)
        rw [upd_ne' (by omega), upd_ne' (by omega), upd_ne' (by omega), upd_eq', lo, if_neg (by omega), if_neg (by omega), if_neg (by omega), if_neg (by omega), if_pos rfl]
      · show upd _ _ _ (5 * c' + 2) = mput rd 4 c' N vs (5 * c' + 3)
        rw [upd_ne' (by omega), upd_ne' (by omega), upd_eq', lo, if_neg (by omega), if_neg (by omega), if_neg (by omega), if_pos rfl]
      · show upd _ _ _ (5 * c' + 3) = mput rd 4 c' N vs (5 * c' + 4)
        rw [upd_ne' (by omega), upd_eq', lo, if_neg (by omega), if_neg (by omega), if_pos rfl]
      · show upd _ _ _ (5 * c' + 4) = mput rd 4 c' N vs (5 * c' + 5)
        rw [upd_eq', lo, if_neg (by omega), if_pos rfl]
    · rw [old c' (by omega) f hf, ← a7 c' (by omega) f hf, upd_ne' (by omega), upd_ne' (by omega), upd_ne' (by omega), upd_ne' (by omega), upd_ne' (by omega)]
  · intro c' hc'
    by_cases q : c' = K
    · subst q
      rw [lo (5 * c' + 1), if_neg (by omega), if_neg (by omega), if_neg (by omega), if_neg (by omega), if_neg (by omega), if_pos rfl]
      rw [lo (5 * c' + 2), if_neg (by omega), if_neg (by omega), if_neg (by omega), if_neg (by omega), if_pos rfl]
      rw [lo (5 * c' + 3), if_neg (by omega), if_neg (by omega), if_neg (by omega), if_pos rfl]
      rw [lo (5 * c' + 4), if_neg (by omega), if_neg (by omega), if_pos rfl]
      rw [lo (5 * c' + 5), if_neg (by omega), if_pos rfl]
      exact ⟨⟨vs 0, rfl, v0.1, v0.2⟩, ⟨vs 1, rfl, v1.1, v1.2⟩, ⟨vs 2, rfl, v2.1, v2.2⟩, ⟨vs 3, vs 1, rfl, rfl, v3'.1, v3'.2, v1.2⟩, ⟨vs 4, rfl, v4.1, v4.2⟩⟩
    · have o0 := old c' (by omega) 0 (by omega)
      have o1 := old c' (by omega) 1 (by omega)
      have o2 := old c' (by omega) 2 (by omega)
      have o3 := old c' (by omega) 3 (by omega)
      have o4 := old c' (by omega) 4 (by omega)
      rw [show 5 * c' + 0 + 1 = 5 * c' + 1 by omega] at o0
      rw [show 5 * c' + 1 + 1 = 5 * c' + 2 by omega] at o1
      rw [show 5 * c' + 2 + 1 = 5 * c' + 3 by omega] at o2
      rw [show 5 * c' + 3 + 1 = 5 * c' + 4 by omega] at o3
      rw [show 5 * c' + 4 + 1 = 5 * c' + 5 by omega] at o4
      rw [o0, o1, o2, o3, o4]
      exact a12 c' (by omega)
  · intro t ht
    rw [hi _ (by omega), hi _ (by omega), hi _ (by omega)]
    exact a13 t ht
theorem tRl_test (h : tRl rd dk dt co (nI K) (nI N) rm (-9) K N) (hN : N < 6) {q : Nat} (hq : 5 ≤ q ∧ q ≤ 7) {vs : Nat → Nat} (h0 : vs 0 ≤ 99) (h1 : 1 ≤ vs 1 ∧ vs 1 ≤ 9) : tRl (mput rd q K N vs) dk (dpt dt q N vs) co (nI K) (nI (N + 1)) rm (-9) K (N + 1) := by
  obtain ⟨a1, a2, a3, a4, a5, a6, a7, a8, a9, a10, a11, a12, a13⟩ := h
  have edt : dpt dt q N vs = upd (upd (upd dt (3 * N) (nI (q - 5))) (3 * N + 1) (nI (vs 0))) (3 * N + 2) (nI (vs 1)) := if_pos hq
  have lo : ∀ z, mput rd q K N vs z = if z = 31 then nI (N + 1) else if z = 3 * N + 32 then nI (q - 5) else if z = 3 * N + 34 then nI (vs 1) else if z = 3 * N + 33 then nI (vs 0) else rd z := by
    intro z
    unfold mput
    rw [if_neg (by omega), if_neg (by omega)]
    rfl
  rw [edt]
  have ot : ∀ z, z ≠ 31 → ¬ (3 * N + 32 ≤ z ∧ z ≤ 3 * N + 34) → mput rd q K N vs z = rd z := by
    intro z g1 g2
    rw [lo, if_neg g1, if_neg (by omega), if_neg (by omega), if_neg (by omega)]
  refine ⟨a1, by omega, by rw [ot 0 (by omega) (by omega), a3], rfl, by rw [lo 31, if_pos rfl], rfl, fun c hc f hf => by rw [ot _ (by omega) (by omega), a7 c hc f hf], ?_, by rw [ot 50 (by omega) (by omega), a9], fun b hb => by rw [ot _ (by omega) (by omega), a10 b hb], by rw [ot 58 (by omega) (by omega), a11], ?_, ?_⟩
  · intro t ht f hf
    by_cases e : t = N
    · subst e
      have hf3 : f = 0 ∨ f = 1 ∨ f = 2 := by omega
      rcases hf3 with rfl | rfl | rfl
      · show upd _ _ _ (3 * t) = mput rd q K t vs (3 * t + 32)
        rw [upd_ne' (by omega), upd_ne' (by omega), upd_eq', lo, if_neg (by omega), if_pos rfl]
      · show upd _ _ _ (3 * t + 1) = mput rd q K t vs (3 * t + 33)
        rw [upd_ne' (by omega), upd_eq', lo, if_neg (by omega), if_neg (by omega), if_neg (by omega), if_pos rfl]
      · show upd _ _ _ (3 * t + 2) = mput rd q K t vs (3 * t + 34)
        rw [upd_eq', lo, if_neg (by omega), if_neg (by omega), if_pos rfl]
    · rw [ot _ (by omega) (by omega), ← a8 t (by omega) f hf, upd_ne' (by omega), upd_ne' (by omega), upd_ne' (by omega)]
  · intro c hc
    rw [ot _ (by omega) (by omega), ot _ (by omega) (by omega), ot _ (by omega) (by omega), ot _ (by omega) (by omega), ot _ (by omega) (by omega)]
    exact a12 c hc
  · intro t ht
    by_cases e : t = N
    · subst e
      rw [lo (3 * t + 32), if_neg (by omega), if_pos rfl]
      rw [lo (3 * t + 33), if_neg (by omega), if_neg (by omega), if_neg (by omega), if_pos rfl]
      rw [lo (3 * t + 34), if_neg (by omega), if_neg (by omega), if_pos rfl]
      exact ⟨⟨q - 5, rfl, by omega, by omega⟩, ⟨vs 0, rfl, by omega, h0⟩, ⟨vs 1, rfl, h1.1, h1.2⟩⟩
    · rw [ot _ (by omega) (by omega), ot _ (by omega) (by omega), ot _ (by omega) (by omega)]
      exact a13 t (by omega)
theorem tRl_item (h : tRl rd dk dt co (nI K) (nI N) rm (-9) K N) {q : Nat} {vs : Nat → Nat} (hno : ¬ pno K N q) (hq8 : q ≤ 8) (hv : ∀ f, f < pln q → (pbd q vs f).1 ≤ vs f ∧ vs f ≤ (pbd q vs f).2) : tRl (mput rd q K N vs) (dpk dk q K vs) (dpt dt q N vs) co (nI (pK q K)) (nI (pN q N)) (dpr rm q vs) (-9) (pK q K) (pN q N) := by
  have hK := h.1
  have hN := h.2.1
  have hq : ¬ q < 4 := fun z => hno (Or.inl z)
  by_cases q4 : q = 4
  · subst q4
    have hK6 : K < 6 := by
      have : ¬ K = 6 := fun z => hno (Or.inr (Or.inl ⟨rfl, z⟩))
      omega
    have e1 : dpt dt 4 N vs = dt := if_neg (by omega)
    have e2 : dpr rm 4 vs = rm := if_neg (by omega)
    have e3 : pN 4 N = N := if_neg (by omega)
    have e4 : pK 4 K = K + 1 := if_pos rfl
    rw [e1, e2, e3, e4]
    exact tRl_coin h hK6 hv
  · have e1 : dpk dk q K vs = dk := if_neg q4
    have e4 : pK q K = K := if_neg q4
    rw [e1, e4]
    by_cases q8 : q = 8
    · subst q8
      have e2 : dpt dt 8 N vs = dt := if_neg (by omega)
      have e3 : pN 8 N = N := if_neg (by omega)
      have e5 : dpr rm 8 vs = nI (vs 0) := if_pos rfl
      have e6 : mput rd 8 K N vs = upd rd 50 (nI (vs 0)) := by
        unfold mput
        rw [if_neg (by omega), if_pos rfl]
      obtain ⟨a1, a2, a3, a4, a5, a6, a7, a8, a9, a10, a11, a12⟩ := h
      rw [e2, e3, e5, e6]
      refine tRl_hi ⟨a1, a2, a3, a4, a5, a6, a7, a8, a9, a10, a11, a12⟩ (fun z hz => upd_ne' (by omega)) upd_eq'.symm (fun b hb => by rw [upd_ne' (by omega), a10 b hb]) (by rw [upd_ne' (by omega), a11])
    · have hq57 : 5 ≤ q ∧ q ≤ 7 := by omega
      have hN6 : N < 6 := by
        have : ¬ N = 6 := fun z => hno (Or.inr (Or.inr ⟨hq57.1, hq57.2, z⟩))
        omega
      have e2 : dpr rm q vs = rm := if_neg q8
      have e3 : pN q N = N + 1 := if_pos hq57
      have el : pln q = 2 := by unfold pln; rw [if_neg q4, if_neg q8]
      have w0 := (hv 0 (by omega)).2
      have w1 := hv 1 (by omega)
      have b0 : (pbd q vs 0).2 ≤ 99 := by
        unfold pbd
        rw [if_neg q4, if_neg q8, if_pos rfl]
        split <;> simp
      have b1 : pbd q vs 1 = (1, 9) := by
        unfold pbd
        rw [if_neg q4, if_neg q8, if_neg (by omega)]
      rw [b1] at w1
      rw [e2, e3]
      exact tRl_test h hN6 hq57 (by omega) w1
theorem tRl_told : ∀ (r : List (Nat × (Nat → Nat))) (K N : Nat) (rd dk dt : Nat → Int32) (rm : Int32), vIt r K N → tRl rd dk dt co (nI K) (nI N) rm (-9) K N → tRl (mpa r K N rd) (dpa r K N (dk, dt, rm)).1 (dpa r K N (dk, dt, rm)).2.1 co (nI (dKs r K)) (nI (dNs r N)) (dpa r K N (dk, dt, rm)).2.2 (-9) (dKs r K) (dNs r N) := by
  intro r
  induction r with
  | nil => intro K N rd dk dt rm _ h; exact h
  | cons it r ih =>
    intro K N rd dk dt rm hv h
    obtain ⟨q, vs⟩ := it
    obtain ⟨v1, v2, v3, v4⟩ := hv
    exact ih _ _ _ _ _ _ v4 (tRl_item h v1 v2 v3)
theorem tRl_begin {rd0 dk dt dc : Nat → Int32} : tRl (mbegin rd0) dk dt (gz dc) (nI 0) (nI 0) 20 (-9) 0 0 := by
  have lo : ∀ z, mbegin rd0 z = if z = 58 then -9 else if z = 50 then 20 else if 0 ≤ z ∧ z < 59 then 0 else rd0 z := fun z => rfl
  refine ⟨by omega, by omega, ?_, rfl, ?_, rfl, fun c hc => absurd hc (by omega), fun t ht => absurd ht (by omega), ?_, ?_, ?_, fun c hc => absurd hc (by omega), fun t ht => absurd ht (by omega)⟩
  · rw [lo, if_neg (by omega), if_neg (by omega), if_pos (by omega)]; rfl
  · rw [lo, if_neg (by omega), if_neg (by omega), if_pos (by omega)]; rfl
  · rw [lo, if_neg (by omega), if_pos rfl]
  · intro b hb
    rw [gz_b hb, lo, if_neg (by omega), if_neg (by omega), if_pos (by omega)]
  · rw [lo, if_pos rfl]
end TA
section TB
variable {X : gX} {w : gH} {n k : Nat} {nw ps im ik : Nat → Int32} {d l S : Nat} {tv Fk Fx Fb : Nat → Nat}
theorem RC_dr {kr ts co : Nat → Int32} {kc tc rm jm : Int32} (h : RC w n k nw ps d im ik tv l S Fk Fx Fb) : RC (sTr w 11 kr ts co kc tc rm jm) n k nw ps d im ik tv l S Fk Fx Fb := by
  obtain ⟨h0, h1, h2, ⟨lt, nb, tt, st, en, g8, g9, g10, hg, h11⟩, h4, h5⟩ := h
  exact ⟨by rw [sTr_ne (by omega), h0], rTr_fr h1 (fun a _ _ => sTr_ne (by omega)), rRH_fr h2 (fun a _ => sTr_ne (by omega)), ⟨lt, nb, tt, st, en, by rw [sTr_ne (by omega), g8], by rw [sTr_ne (by omega), g9], by rw [sTr_ne (by omega), g10], hg, ⟨_, _, _, _, _, _, _, sTr_is⟩⟩, rRP_fr h4 (fun a _ _ => sTr_ne (by omega)), rRW_fr h5 (fun a _ _ => sTr_ne (by omega))⟩
theorem RM_dr {kr ts co : Nat → Int32} {kc tc rm jm : Int32} (h : RM w nw ps d im ik tv l S Fk Fx Fb) : RM (sTr w 11 kr ts co kc tc rm jm) nw ps d im ik tv l S Fk Fx Fb := RM_fr h (fun a q1 q2 => sTr_ne (by omega))
end TB
theorem neg_f : ∀ f, f < 151 → (-10 - nI f : Int32) < 0 := by decide +kernel
section TC
variable {X : gX} {w : gH} {n k : Nat}
theorem s_tells (hL : LI w n k) : GG X 87 135 [.ref 0, .null] [.ref 24, .null] n k w := by
  obtain ⟨nw, ps, d, im, ik, tv, l, S, Fk, Fx, Fb, hC, hM⟩ := hL
  have hC' := hC
  obtain ⟨h0, ⟨kr, ts, co, kc, tc, rm, jm, K, N, hT, hR⟩, hH, hTe, hPl, hWi⟩ := hC'
  have hR' := hR
  obtain ⟨hK, hN, r0, e1, r31, e2, rk, rt, e3, rc, e4, hrg⟩ := hR'
  subst e1; subst e2; subst e3; subst e4
  have h1 : w 1 = .inr (3, [.ref 2, .ref 3, .ref 4, .int (nI K), .int (nI N), .int (nw 50), .int (nw 58)]) := hT.1
  have hd6 : d ≤ 6 := by obtain ⟨_, _, _, _, _, _, _, h, _⟩ := hH; exact h
  have g5 : gisO 0 (w 5) = true := by obtain ⟨nx, rg, ig, h5, _⟩ := hH; rw [h5]; rfl
  unfold GG
  obtain ⟨lt, nb, tt, st, en, h8, h9, h10, hg, ⟨dk, dt, dc, kcd, tcd, rmd, jmd, h11⟩⟩ := hTe
  have hl := hg.1
  have hw8 : tW (sTr w 11 dk dt dc kcd tcd rmd jmd) lt nb (nI l) tt st en = w := by rw [sTr_self h11]; exact tW_self h8 h9 h10
  have t0' : ∀ {dk dt dc lt nb : Nat → Int32} {kc tc rm jm tl tt st en : Int32}, tW (sTr w 11 dk dt dc kc tc rm jm) lt nb tl tt st en 0 = (.inr (5, [.ref 1, .ref 5, .ref 7, .ref 8, .ref 15, .ref 20]) : gE) := by intros; rw [tW_ne (by omega), sTr_ne (by omega), h0]
  rw [← hw8]
  simp only [eX5_tells_0, eX5_tells_1, eX5_tells_4, Option.toList_some, Option.toList_none, List.cons_append, List.nil_append, gcat_nil, gcat_cons, cat_int, cat_ref, cat_null, cat_ret, cat_long, grc_ref, narZ0, narZ1, true_and, and_true, decide_true, Nat.reduceAdd, Nat.reduceLeDiff, if_true, if_false, eq_self, gfld_in, gobj_in, garr_in, garq_in, glen_in, gisO_in, ex_some, List.getElem?_cons_succ, List.getElem?_cons_zero, List.length_cons, List.length_nil, List.set_cons_succ, List.set_cons_zero, Nat.reduceLT, va_up_eq, va_up_nl, t0', tW_8]
  refine c_readAll hg ?_ ?_
  · intro f hf dk' dt' kc' tc' rm' nb' tt' st' en' hfl
    have hlt : (-10 - nI f : Int32) < 0 := neg_f f (by omega)
    simp only [eX5_tells_7, eX5_tells_7b, eX5_tells_7c, eX5_tells_7d, eX5_tells_8, eX5_tells_9, eX5_tells_45, eX5_tells_46, Option.toList_some, Option.toList_none, List.cons_append, List.nil_append, gcat_nil, gcat_cons, cat_int, cat_ref, cat_null, cat_ret, cat_long, grc_ref, narZ0, narZ1, true_and, and_true, decide_true, Nat.reduceAdd, Nat.reduceLeDiff, if_true, if_false, eq_self, gfld_in, gobj_in, garr_in, garq_in, glen_in, gisO_in, ex_some, List.getElem?_cons_succ, List.getElem?_cons_zero, List.length_cons, List.length_nil, List.set_cons_succ, List.set_cons_zero, Nat.reduceLT, va_up_eq, va_up_nl, hlt]
    refine ⟨_, rfl, ?_⟩
    obtain ⟨rd, tx, pz, tk, ta, va, fa, it, al, ln, fz, fb, be, fo, fm, io, hw, ht, hF⟩ := RM_tW (lt := lt) (nb := nb') (tl := nI l) (tt := tt') (st := st') (en := en') (RM_dr (kr := dk') (ts := dt') (co := gz dc) (kc := kc') (tc := tc') (rm := rm') (jm := -9) hM); refine ⟨by rw [hw]; rfl, ?_⟩; rw [hw]
    refine c6_tells ht hd6 ?_ ?_
    · intro f2 hf2 rd pz tk ta va it
      rw [hf] at hf2
      cases hf2
      exact ⟨rfl, LI_mk (RC_tW (RC_dr hC) hg) ht hF⟩
    · intro r hr
      rw [hf] at hr
      cases hr
  · intro r hr nb' tt' st' en'
    obtain ⟨hv, hrl⟩ := pal_ok tv l (l + 1) 0 0 0 r hr
    have hge : ¬ nI r.length < 0 := nI_pos (by omega)
    have htold : ∀ rd0, tRl (mpa r 0 0 (mbegin rd0)) (dpa r 0 0 (dk, dt, 20)).1 (dpa r 0 0 (dk, dt, 20)).2.1 (gz dc) (nI (dKs r 0)) (nI (dNs r 0)) (dpa r 0 0 (dk, dt, 20)).2.2 (-9) (dKs r 0) (dNs r 0) := fun rd0 => tRl_told (co := gz dc) r 0 0 (mbegin rd0) dk dt 20 hv tRl_begin
    generalize (dpa r 0 0 (dk, dt, 20)).1 = D1 at htold ⊢
    generalize (dpa r 0 0 (dk, dt, 20)).2.1 = D2 at htold ⊢
    generalize (dpa r 0 0 (dk, dt, 20)).2.2 = D3 at htold ⊢
    generalize dKs r 0 = Kd at htold ⊢
    generalize dNs r 0 = Nd at htold ⊢
    have g5' : ∀ {dk dt dc lt nb : Nat → Int32} {kc tc rm jm tl tt st en : Int32}, gisO 0 (tW (sTr w 11 dk dt dc kc tc rm jm) lt nb tl tt st en 5) = true := by intros; rw [tW_ne (by omega), sTr_ne (by omega)]; exact g5
    simp only [eX5_tells_7, eX5_tells_7b, eX5_tells_7c, eX5_tells_7d, eX5_tells_8, eX5_tells_9, eX5_tells_12, eX5_tells_13, eX5_tells_16, eX5_tells_17, eX5_tells_20, Option.toList_some, Option.toList_none, List.cons_append, List.nil_append, gcat_nil, gcat_cons, cat_int, cat_ref, cat_null, cat_ret, cat_long, grc_ref, narZ0, narZ1, true_and, and_true, decide_true, Nat.reduceAdd, Nat.reduceLeDiff, if_true, if_false, eq_self, gfld_in, gobj_in, garr_in, garq_in, glen_in, gisO_in, ex_some, List.getElem?_cons_succ, List.getElem?_cons_zero, List.length_cons, List.length_nil, List.set_cons_succ, List.set_cons_zero, Nat.reduceLT, va_up_eq, va_up_nl, hge, t0', g5']
    have hT' : isTr (tW (sTr w 11 D1 D2 (gz dc) (nI Kd) (nI Nd) D3 (-9)) lt nb' (nI l) tt' st' en') 1 kr ts co (nI K) (nI N) (nw 50) (nw 58) := isTr_fr hT (fun a q1 q2 => by rw [tW_ne (by omega), sTr_ne (by omega)])
    refine r_remember (rRH_fr hH (fun a ha => by rw [tW_ne (by omega), sTr_ne (by omega)])) hT' hR ?_
    intro w1 n1 k1 hH1 hf
    have e8 : w1 8 = (.inr (2, [.ref 9, .ref 10, .ref 11, .int (nI l), .int (tt'), .int (st'), .int (en')]) : gE) := by rw [hf 8 (by omega) (by omega) (by omega)]; rfl
    have e9 : w1 9 = (.inl (.int, 150, .inl (lt)) : gE) := by rw [hf 9 (by omega) (by omega) (by omega)]; rfl
    have e10 : w1 10 = (.inl (.int, 5, .inl (nb')) : gE) := by rw [hf 10 (by omega) (by omega) (by omega)]; rfl
    have e0 : w1 0 = (.inr (5, [.ref 1, .ref 5, .ref 7, .ref 8, .ref 15, .ref 20]) : gE) := by rw [hf 0 (by omega) (by omega) (by omega)]; exact t0'
    have hT1 : isTr w1 1 kr ts co (nI K) (nI N) (nw 50) (nw 58) := isTr_fr hT' (fun a q1 q2 => hf a (by omega) (by omega) (by omega))
    have e1 : w1 1 = .inr (3, [.ref 2, .ref 3, .ref 4, .int (nI K), .int (nI N), .int (nw 50), .int (nw 58)]) := hT1.1
    have h111 : isTr w1 11 D1 D2 (gz dc) (nI Kd) (nI Nd) D3 (-9) := isTr_fr (w := sTr w 11 D1 D2 (gz dc) (nI Kd) (nI Nd) D3 (-9)) sTr_is (fun a q1 q2 => by rw [hf a (by omega) (by omega) (by omega), tW_ne (by omega)])
    have hcf : ∀ {Q : Option Value → Nat → Nat → gH → Prop}, gEv (gT X) 44 0 [.ref 1, .ref 11] [] n1 k1 w1 Q ↔ Q none n1 k1 (sTr w1 1 (gcp D1 kr 30) (gcp D2 ts 18) (gcp (gz dc) co 7) (nI Kd) (nI Nd) D3 (-9)) := by
      intro Q
      have := @c_copyFrom X n1 k1 w1 Q 1 kr ts co (nI K) (nI N) (nw 50) (nw 58) 11 D1 D2 (gz dc) (nI Kd) (nI Nd) D3 (-9) h111 (by omega)
      rw [sTr_self hT1] at this
      exact this
    have e8' : ∀ {kr ts co : Nat → Int32} {kc tc rm jm : Int32}, sTr w1 1 kr ts co kc tc rm jm 8 = (.inr (2, [.ref 9, .ref 10, .ref 11, .int (nI l), .int (tt'), .int (st'), .int (en')]) : gE) := by intros; rw [sTr_ne (by omega), e8]
    have e0' : ∀ {kr ts co : Nat → Int32} {kc tc rm jm : Int32}, sTr w1 1 kr ts co kc tc rm jm 0 = (.inr (5, [.ref 1, .ref 5, .ref 7, .ref 8, .ref 15, .ref 20]) : gE) := by intros; rw [sTr_ne (by omega), e0]
    have ew : ∀ {kr ts co : Nat → Int32} {kc tc rm jm : Int32}, va_up (sTr w1 1 kr ts co kc tc rm jm) 8 (.inr (2, [.ref 9, .ref 10, .ref 11, .int (0), .int (tt'), .int (st'), .int (en')]) : gE) = sTr (tW w1 lt nb' 0 tt' st' en') 1 kr ts co kc tc rm jm := by
      intros
      rw [sTr_up (by omega)]
      congr 1
      have := @tW_p8 w1 lt nb' (nI l) tt' st' en' 0 tt' st' en'
      rw [tW_self e8 e9 e10] at this
      exact this
    simp only [eX5_tells_23, eX5_tells_24, eX5_tells_27, eX5_tells_28, eX5_tells_31, eX5_tells_34, Option.toList_some, Option.toList_none, List.cons_append, List.nil_append, gcat_nil, gcat_cons, cat_int, cat_ref, cat_null, cat_ret, cat_long, grc_ref, narZ0, narZ1, true_and, and_true, decide_true, Nat.reduceAdd, Nat.reduceLeDiff, if_true, if_false, eq_self, gfld_in, gobj_in, garr_in, garq_in, glen_in, gisO_in, ex_some, List.getElem?_cons_succ, List.getElem?_cons_zero, List.length_cons, List.length_nil, List.set_cons_succ, List.set_cons_zero, Nat.reduceLT, va_up_eq, va_up_nl, e0, e8, e1, hcf]
    simp only [eX5_tells_37, eX5_tells_38, eX5_tells_41, eX5_tells_42, eX5_tells_45, eX5_tells_46, Option.toList_some, Option.toList_none, List.cons_append, List.nil_append, gcat_nil, gcat_cons, cat_int, cat_ref, cat_null, cat_ret, cat_long, grc_ref, narZ0, narZ1, true_and, and_true, decide_true, Nat.reduceAdd, Nat.reduceLeDiff, if_true, if_false, eq_self, gfld_in, gobj_in, garr_in, garq_in, glen_in, gisO_in, ex_some, List.getElem?_cons_succ, List.getElem?_cons_zero, List.length_cons, List.length_nil, List.set_cons_succ, List.set_cons_zero, Nat.reduceLT, va_up_eq, va_up_nl, e0', e8', ew]
    refine ⟨_, rfl, ?_⟩
    have hf2 : ∀ a, a ≠ 5 → a ≠ 6 → a < 36 → tW w1 lt nb' 0 tt' st' en' a = tW (sTr w 11 D1 D2 (gz dc) (nI Kd) (nI Nd) D3 (-9)) lt nb' 0 tt' st' en' a := by
      intro a q1 q2 q3
      by_cases q : 8 ≤ a ∧ a ≤ 10
      · have hc : a = 8 ∨ a = 9 ∨ a = 10 := by omega
        rcases hc with rfl | rfl | rfl <;> rfl
      · rw [tW_ne (by omega), tW_ne (by omega), hf a q1 q2 q3, tW_ne (by omega)]
    have hH2 : rRH (tW w1 lt nb' 0 tt' st' en') n1 k1 (mnote nw ps d) (hmn d) im ik := rRH_fr hH1 (fun a ha => tW_ne (by omega))
    obtain ⟨rd, tx, pz, tk, ta, va, fa, it, al, ln, fz, fb, be, fo, fm, io, hw, ht, hF⟩ := RM_deed (kr := gcp D1 kr 30) (ts := gcp D2 ts 18) (co := gcp (gz dc) co 7) (kc := nI Kd) (tc := nI Nd) (rm := D3) (jm := -9) (RM_tW (lt := lt) (nb := nb') (tl := 0) (tt := tt') (st := st') (en := en') (RM_dr (kr := D1) (ts := D2) (co := gz dc) (kc := nI Kd) (tc := nI Nd) (rm := D3) (jm := -9) hM)) hf2; refine ⟨by rw [hw]; rfl, ?_⟩; rw [hw]
    refine c6_tells ht hd6 ?_ ?_
    · intro f2 hf2'
      rw [hr] at hf2'
      cases hf2'
    · intro r2 hr2 rd' pz tk ta va it
      rw [hr] at hr2
      cases hr2
      exact ⟨rfl, LI_mk (tv := tv) (l := 0) (d := hmn d) (RC_deed (RC_tW (l' := 0) (tv' := tv) (RC_dr hC) gtx_0) hH2 hf2 (tRl_row (tRl_cp (htold rd)) (fun z hz => by rw [mrng_in (by omega) hz]))) gtx_0 hF⟩
end TC
