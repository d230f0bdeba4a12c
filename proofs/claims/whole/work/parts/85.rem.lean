/-! WHAT IS REMEMBERED, as the plain form remembers it -/
section RB
variable {X : gX} {Q : Option Value → Nat → Nat → gH → Prop} {w w' : gH} {n k : Nat} {nw ps im ik : Nat → Int32} {d l S : Nat} {tv Fk Fx Fb : Nat → Nat} {kr ts co : Nat → Int32} {kc tc rm jm : Int32} {K N : Nat}
theorem frs_le {rg ig : Nat → Option Nat} : frs rg ig ≤ 8 := by
  have h : ∀ o, fr1 o ≤ 1 := by
    intro o
    cases o <;> simp [fr1]
  unfold frs
  have := h (rg 0); have := h (rg 1); have := h (rg 2); have := h (rg 3); have := h (rg 4); have := h (rg 5); have := h (ig 0); have := h (ig 1)
  omega
theorem rix_lt {nx d i : Nat} : rix nx d i < 6 := Nat.mod_lt _ (by omega)
theorem r_remember (hH : rRH w n k ps d im ik) (hT : isTr w 1 kr ts co kc tc rm jm) (hR : tRl nw kr ts co kc tc rm jm K N) (hQ : ∀ w' n' k', rRH w' n' k' (mnote nw ps d) (hmn d) im ik → (∀ a, a ≠ 5 → a ≠ 6 → a < 36 → w' a = w a) → Q none n' k' w') : gEv (gT X) 10 0 [.ref 5, .ref 1, .null] [] n k w Q := by
  obtain ⟨nx, rg, ig, h5, h6, h7, hx, hd, ⟨s1, s2, s3, s4⟩, hP, hI⟩ := hH
  have hf8 : frs rg ig ≤ 8 := frs_le
  have hn : 36 ≤ n := by omega
  have slx : slo rg ig nx = rg nx := if_pos hx
  refine c_remember hn h5 h6 hT hx hd ?_ ?_
  · intro p hp
    obtain ⟨q1, q2, q3, q4⟩ := s3 nx (by omega) p (by rw [slx]; exact hp)
    exact ⟨q1, q4⟩
  · intro p n' k' kr0 ts0 co0 hc
    have f1 : 36 ≤ p ∧ p + 4 ≤ n' ∧ p % 4 = 0 ∧ n ≤ n' := by
      rcases hc with ⟨c1, c2, c3⟩ | ⟨c1, c2, c3, c4⟩
      · obtain ⟨q1, q2, q3, q4⟩ := s3 nx (by omega) p (by rw [slx]; exact c1)
        omega
      · omega
    have f2 : ∀ j, j < 8 → j ≠ nx → ∀ p', slo rg ig j = some p' → 36 ≤ p' ∧ p' + 4 ≤ n ∧ p' % 4 = 0 ∧ p' ≠ p := by
      intro j hj hjn p' hp'
      obtain ⟨q1, q2, q3, q4⟩ := s3 j hj p' hp'
      refine ⟨q1, q2, q3, ?_⟩
      rcases hc with ⟨c1, c2, c3⟩ | ⟨c1, c2, c3, c4⟩
      · intro e
        subst e
        exact hjn (s4 j hj nx (by omega) p' hp' (by rw [slx]; exact c1))
      · omega
    have sl' : ∀ j, j < 8 → slo (va_up rg nx (some p)) ig j = if j = nx then some p else slo rg ig j := by
      intro j hj
      unfold slo va_up
      by_cases q : j = nx
      · subst q; rw [if_pos hx, if_pos rfl, if_pos rfl]
      · by_cases q2 : j < 6
        · rw [if_pos q2, if_neg q, if_neg q, if_pos q2]
        · rw [if_neg q2, if_neg q, if_neg q2]
    have fw : ∀ a, a ≠ 5 → a ≠ 6 → (a < p ∨ p + 3 < a) → (sTr (va_up (va_up w 6 (.inl ((.object "CoinTrack$Track"), 6, .inr (.inr (.inr (.inr (va_up rg nx (some p)))))) : gE)) 5 (.inr (0, [.ref 6, .int (nI (hnx nx)), .int (nI (hmn d))]) : gE)) p (gcp kr kr0 30) (gcp ts ts0 18) (gcp co co0 7) kc tc rm jm) a = w a := by
      intro a h5 h6 hp
      rw [sTr_ne hp, up_lit h5, up_lit h6]
    refine hQ _ n' k' ?_ (fun a h5 h6 h36 => fw a h5 h6 (by omega))
    refine ⟨hnx nx, va_up rg nx (some p), ig, ?_, ?_, ?_, ?_, ?_, ⟨?_, ?_, ?_, ?_⟩, ?_, ?_⟩
    · rw [sTr_ne (by omega)]; simp [va_up]
    · rw [sTr_ne (by omega), up_lit (by omega)]; simp [va_up]
    · rw [fw 7 (by omega) (by omega) (by omega), h7]
    · unfold hnx; split <;> omega
    · unfold hmn; split <;> omega
    · rcases hc with ⟨c1, c2, c3⟩ | ⟨c1, c2, c3, c4⟩
      · rw [upo_self c1, c2]; exact s1
      · have := fr_up (ig := ig) (p := p) hx c1
        omega
    · rcases hc with ⟨c1, c2, c3⟩ | ⟨c1, c2, c3, c4⟩
      · rw [upo_self c1, c3]; exact s2
      · have := fr_up (ig := ig) (p := p) hx c1
        omega
    · intro j hj p' hp'
      rw [sl' j hj] at hp'
      by_cases q : j = nx
      · rw [if_pos q] at hp'
        cases hp'
        exact ⟨f1.1, f1.2.1, f1.2.2.1, ⟨_, _, _, _, _, _, _, sTr_is⟩⟩
      · rw [if_neg q] at hp'
        obtain ⟨q1, q2, q3, q4⟩ := s3 j hj p' hp'
        obtain ⟨_, _, _, g4⟩ := f2 j hj q p' hp'
        exact ⟨q1, by omega, q3, shT_fr q4 (fun a h1 h2 => fw a (by omega) (by omega) (by omega))⟩
    · intro i hi j hj p' h1 h2
      rw [sl' i hi] at h1
      rw [sl' j hj] at h2
      by_cases qi : i = nx
      · by_cases qj : j = nx
        · omega
        · rw [if_pos qi] at h1
          rw [if_neg qj] at h2
          cases h1
          exact absurd rfl (f2 j hj qj p h2).2.2.2
      · by_cases qj : j = nx
        · rw [if_neg qi] at h1
          rw [if_pos qj] at h2
          cases h2
          exact absurd rfl (f2 i hi qi p h1).2.2.2
        · rw [if_neg qi] at h1
          rw [if_neg qj] at h2
          exact s4 i hi j hj p' h1 h2
    · intro i hi
      have hrl : rix (hnx nx) (hmn d) i < 6 := rix_lt
      by_cases qi : i + 1 = hmn d
      · have e : rix (hnx nx) (hmn d) i = nx := by
          unfold rix hnx
          have : hmn d ≤ 6 := by unfold hmn; split <;> omega
          split <;> omega
        refine ⟨p, by rw [e]; simp [va_up], ?_⟩
        refine ⟨_, _, _, _, _, _, _, K, N, sTr_is, tRl_row (tRl_cp hR) (fun z hz => ?_)⟩
        unfold mnote
        unfold hmn at qi
        by_cases q6 : d = 6
        · rw [if_pos q6] at qi ⊢
          rw [mrng_in (by omega) (by omega), show 0 + (59 * i + z - 295) = z by omega]
        · rw [if_neg q6] at qi ⊢
          rw [mrng_in (by omega) (by omega), show 0 + (59 * i + z - 59 * d) = z by omega]
      · by_cases q6 : d = 6
        · have em : hmn d = 6 := by unfold hmn; rw [if_pos q6]
          rw [em] at hi qi hrl fw ⊢
          have e : rix (hnx nx) 6 i = rix nx d (i + 1) := by
            unfold rix hnx
            split <;> omega
          have ene : rix nx d (i + 1) ≠ nx := by
            unfold rix
            omega
          obtain ⟨p', hp', hr'⟩ := hP (i + 1) (by omega)
          have hs' : slo rg ig (rix nx d (i + 1)) = some p' := by unfold slo; rw [if_pos rix_lt]; exact hp'
          obtain ⟨g1, g2, g3, g4⟩ := f2 _ (by have := @rix_lt nx d (i + 1); omega) ene p' hs'
          refine ⟨p', ?_, rTr_fr (rTr_row hr' (fun z hz => ?_)) (fun a h1 h2 => fw a (by omega) (by omega) (by omega))⟩
          · rw [e]; unfold va_up; rw [if_neg ene]; exact hp'
          · unfold mnote
            rw [if_pos q6, mrng_out (by omega), mrng_in (by omega) (by omega), show 59 * i + z + 59 = 59 * (i + 1) + z by omega]
        · have em : hmn d = d + 1 := by unfold hmn; rw [if_neg q6]
          rw [em] at hi qi hrl fw ⊢
          have e : rix (hnx nx) (d + 1) i = rix nx d i := by
            unfold rix hnx
            split <;> omega
          have ene : rix nx d i ≠ nx := by
            unfold rix
            omega
          obtain ⟨p', hp', hr'⟩ := hP i (by omega)
          have hs' : slo rg ig (rix nx d i) = some p' := by unfold slo; rw [if_pos rix_lt]; exact hp'
          obtain ⟨g1, g2, g3, g4⟩ := f2 _ (by have := @rix_lt nx d i; omega) ene p' hs'
          refine ⟨p', ?_, rTr_fr (rTr_row hr' (fun z hz => ?_)) (fun a h1 h2 => fw a (by omega) (by omega) (by omega))⟩
          · rw [e]; unfold va_up; rw [if_neg ene]; exact hp'
          · unfold mnote
            rw [if_neg q6, mrng_out (by omega)]
    · intro i hi
      rcases hI i hi with h | ⟨p', hp', hk, hr'⟩
      · exact Or.inl h
      · have hs' : slo rg ig (6 + i) = some p' := by unfold slo; rw [if_neg (by omega), Nat.add_sub_cancel_left]; exact hp'
        obtain ⟨g1, g2, g3, g4⟩ := f2 (6 + i) (by omega) (by omega) p' hs'
        exact Or.inr ⟨p', hp', hk, rTr_fr hr' (fun a h1 h2 => fw a (by omega) (by omega) (by omega))⟩
end RB
