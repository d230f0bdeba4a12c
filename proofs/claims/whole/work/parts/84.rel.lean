/-! THE CLASS AND THE PLAIN FORM: how they belong together -/
def inR (x : Int32) (lo hi : Nat) : Prop := ∃ m, x = nI m ∧ lo ≤ m ∧ m ≤ hi
theorem inR_of {x : Int32} {lo hi : Nat} (hh : hi < 1000) (hl : lo < 1000) (h : nI lo ≤ x ∧ x ≤ nI hi) : inR x lo hi := by
  rcases pk_ix x (n := hi + 1) (by omega) with h1 | h1 | ⟨j, hj, rfl⟩
  · exfalso
    have e1 := Int32.le_iff_toInt_le.mp h.1
    have e2 := Int32.lt_iff_toInt_lt.mp h1
    rw [nI_toInt (by omega)] at e1
    have e4 : (0 : Int32).toInt = 0 := by decide
    omega
  · exfalso
    have e1 := Int32.le_iff_toInt_le.mp h.2
    have e2 := Int32.le_iff_toInt_le.mp h1
    rw [nI_toInt (by omega)] at e2
    rw [nI_toInt (by omega)] at e1
    omega
  · refine ⟨j, rfl, ?_, by omega⟩
    by_cases q : lo ≤ j
    · exact q
    · exact absurd h.1 (nI_ge (by omega) (by omega))
/-- the numbers of a row are such as may be told -/
def rgs (row : Nat → Int32) (K N : Nat) : Prop := (∀ c, c < K → inR (row (5 * c + 1)) 1 99 ∧ inR (row (5 * c + 2)) 1 99 ∧ inR (row (5 * c + 3)) 0 2 ∧ (∃ r v, row (5 * c + 4) = nI r ∧ row (5 * c + 2) = nI v ∧ r ≤ 9 ∧ r < v ∧ v ≤ 99) ∧ inR (row (5 * c + 5)) 0 99) ∧ (∀ t, t < N → inR (row (3 * t + 32)) 0 2 ∧ inR (row (3 * t + 33)) 0 99 ∧ inR (row (3 * t + 34)) 1 9)
/-- a Track's numbers are a row's -/
def tRl (row kr ts co : Nat → Int32) (kc tc rm jm : Int32) (K N : Nat) : Prop := K ≤ 6 ∧ N ≤ 6 ∧ row 0 = nI K ∧ kc = nI K ∧ row 31 = nI N ∧ tc = nI N ∧ (∀ c, c < K → ∀ f, f < 5 → kr (5 * c + f) = row (5 * c + f + 1)) ∧ (∀ t, t < N → ∀ f, f < 3 → ts (3 * t + f) = row (3 * t + f + 32)) ∧ rm = row 50 ∧ (∀ b, b < 7 → co b = row (51 + b)) ∧ jm = row 58 ∧ rgs row K N
def rTr (w : gH) (t : Nat) (row : Nat → Int32) : Prop := ∃ kr ts co kc tc rm jm K N, isTr w t kr ts co kc tc rm jm ∧ tRl row kr ts co kc tc rm jm K N
def shT (w : gH) (t : Nat) : Prop := ∃ kr ts co kc tc rm jm, isTr w t kr ts co kc tc rm jm
def slo (rg ig : Nat → Option Nat) (j : Nat) : Option Nat := if j < 6 then rg j else ig (j - 6)
def fr1 (o : Option Nat) : Nat := match o with
  | none => 1
  | some _ => 0
def frs (rg ig : Nat → Option Nat) : Nat := fr1 (rg 0) + fr1 (rg 1) + fr1 (rg 2) + fr1 (rg 3) + fr1 (rg 4) + fr1 (rg 5) + fr1 (ig 0) + fr1 (ig 1)
def sSL (w : gH) (n k : Nat) (rg ig : Nat → Option Nat) : Prop := n + 4 * frs rg ig = 68 ∧ k + 62 * frs rg ig ≤ 100000 ∧ (∀ j, j < 8 → ∀ p, slo rg ig j = some p → 36 ≤ p ∧ p + 4 ≤ n ∧ p % 4 = 0 ∧ shT w p) ∧ (∀ i, i < 8 → ∀ j, j < 8 → ∀ p, slo rg ig i = some p → slo rg ig j = some p → i = j)
def rix (nx d i : Nat) : Nat := (nx + 6 - d + i) % 6
def rRH (w : gH) (n k : Nat) (ps : Nat → Int32) (d : Nat) (im ik : Nat → Int32) : Prop := ∃ nx rg ig, w 5 = (.inr (0, [.ref 6, .int (nI nx), .int (nI d)]) : gE) ∧ w 6 = (.inl ((.object "CoinTrack$Track"), 6, .inr (.inr (.inr (.inr (rg))))) : gE) ∧ w 7 = (.inl ((.object "CoinTrack$Track"), 2, .inr (.inr (.inr (.inr (ig))))) : gE) ∧ nx < 6 ∧ d ≤ 6 ∧ sSL w n k rg ig ∧ (∀ i, i < d → ∃ p, rg (rix nx d i) = some p ∧ rTr w p (fun z => ps (59 * i + z))) ∧ (∀ i, i < 2 → (ig i = none ∧ ik i = 0) ∨ ∃ p, ig i = some p ∧ ik i = 1 ∧ rTr w p (fun z => im (59 * i + z)))
def rRT (w : gH) (tv : Nat → Nat) (l : Nat) : Prop := ∃ lt nb tt st en, w 8 = (.inr (2, [.ref 9, .ref 10, .ref 11, .int (nI l), .int (tt), .int (st), .int (en)]) : gE) ∧ w 9 = (.inl (.int, 150, .inl (lt)) : gE) ∧ w 10 = (.inl (.int, 5, .inl (nb)) : gE) ∧ gtx lt tv l ∧ shT w 11
def rRP (w : gH) : Prop := ∃ vk vs vc rp nt, w 15 = (.inr (1, [.ref 16, .ref 17, .int (vc), .ref 18, .ref 19]) : gE) ∧ w 16 = (.inl (.int, 60, .inl (vk)) : gE) ∧ w 17 = (.inl (.int, 60, .inl (vs)) : gE) ∧ w 18 = (.inl (.int, 64, .inl (rp)) : gE) ∧ w 19 = (.inl (.int, 64, .inl (nt)) : gE)
def rRW (w : gH) (S : Nat) (Fk Fx Fb : Nat → Nat) : Prop := ∃ sr su ty sz, w 20 = (.inr (4, [.ref 21, .ref 22, .ref 23, .int (nI S), .int (sz)]) : gE) ∧ w 21 = (.inl (.int, 18, .inl (sr)) : gE) ∧ w 22 = (.inl (.int, 13, .inl (su)) : gE) ∧ w 23 = (.inl (.int, 7, .inl (ty)) : gE) ∧ gFa sr Fk Fx Fb S
def RC (w : gH) (n k : Nat) (nw ps : Nat → Int32) (d : Nat) (im ik : Nat → Int32) (tv : Nat → Nat) (l S : Nat) (Fk Fx Fb : Nat → Nat) : Prop := w 0 = (.inr (5, [.ref 1, .ref 5, .ref 7, .ref 8, .ref 15, .ref 20]) : gE) ∧ rTr w 1 nw ∧ rRH w n k ps d im ik ∧ rRT w tv l ∧ rRP w ∧ rRW w S Fk Fx Fb
section RA
variable {w w' : gH} {n k : Nat} {nw ps im ik : Nat → Int32} {d l S : Nat} {tv Fk Fx Fb : Nat → Nat}
theorem isTr_fr {t : Nat} {kr ts co : Nat → Int32} {kc tc rm jm : Int32} (h : isTr w t kr ts co kc tc rm jm) (hf : ∀ a, t ≤ a → a ≤ t + 3 → w' a = w a) : isTr w' t kr ts co kc tc rm jm := by
  obtain ⟨h0, h1, h2, h3⟩ := h
  exact ⟨by rw [hf _ (by omega) (by omega), h0], by rw [hf _ (by omega) (by omega), h1], by rw [hf _ (by omega) (by omega), h2], by rw [hf _ (by omega) (by omega), h3]⟩
theorem rTr_fr {t : Nat} {row : Nat → Int32} (h : rTr w t row) (hf : ∀ a, t ≤ a → a ≤ t + 3 → w' a = w a) : rTr w' t row := by
  obtain ⟨kr, ts, co, kc, tc, rm, jm, K, N, h1, h2⟩ := h
  exact ⟨kr, ts, co, kc, tc, rm, jm, K, N, isTr_fr h1 hf, h2⟩
theorem shT_fr {t : Nat} (h : shT w t) (hf : ∀ a, t ≤ a → a ≤ t + 3 → w' a = w a) : shT w' t := by
  obtain ⟨kr, ts, co, kc, tc, rm, jm, h1⟩ := h
  exact ⟨kr, ts, co, kc, tc, rm, jm, isTr_fr h1 hf⟩
theorem rRT_fr (h : rRT w tv l) (hf : ∀ a, 8 ≤ a → a ≤ 14 → w' a = w a) : rRT w' tv l := by
  obtain ⟨lt, nb, tt, st, en, h1, h2, h3, h4, h5⟩ := h
  exact ⟨lt, nb, tt, st, en, by rw [hf _ (by omega) (by omega), h1], by rw [hf _ (by omega) (by omega), h2], by rw [hf _ (by omega) (by omega), h3], h4, shT_fr h5 (fun a h1 h2 => hf a (by omega) (by omega))⟩
theorem rRP_fr (h : rRP w) (hf : ∀ a, 15 ≤ a → a ≤ 19 → w' a = w a) : rRP w' := by
  obtain ⟨vk, vs, vc, rp, nt, h1, h2, h3, h4, h5⟩ := h
  exact ⟨vk, vs, vc, rp, nt, by rw [hf _ (by omega) (by omega), h1], by rw [hf _ (by omega) (by omega), h2], by rw [hf _ (by omega) (by omega), h3], by rw [hf _ (by omega) (by omega), h4], by rw [hf _ (by omega) (by omega), h5]⟩
theorem rRW_fr (h : rRW w S Fk Fx Fb) (hf : ∀ a, 20 ≤ a → a ≤ 23 → w' a = w a) : rRW w' S Fk Fx Fb := by
  obtain ⟨sr, su, ty, sz, h1, h2, h3, h4, h5⟩ := h
  exact ⟨sr, su, ty, sz, by rw [hf _ (by omega) (by omega), h1], by rw [hf _ (by omega) (by omega), h2], by rw [hf _ (by omega) (by omega), h3], by rw [hf _ (by omega) (by omega), h4], h5⟩
theorem rRH_fr (h : rRH w n k ps d im ik) (hf : ∀ a, 5 ≤ a ∧ a ≤ 7 ∨ 36 ≤ a → w' a = w a) : rRH w' n k ps d im ik := by
  obtain ⟨nx, rg, ig, h1, h2, h3, h4, h5, ⟨s1, s2, s3, s4⟩, h7, h8⟩ := h
  refine ⟨nx, rg, ig, by rw [hf _ (by omega), h1], by rw [hf _ (by omega), h2], by rw [hf _ (by omega), h3], h4, h5, ⟨s1, s2, ?_, s4⟩, ?_, ?_⟩
  · intro j hj p hp
    obtain ⟨q1, q2, q3, q4⟩ := s3 j hj p hp
    exact ⟨q1, q2, q3, shT_fr q4 (fun a h1 h2 => hf a (by omega))⟩
  · intro i hi
    obtain ⟨p, hp, hr⟩ := h7 i hi
    have hs : slo rg ig (rix nx d i) = some p := by unfold slo; rw [if_pos (show rix nx d i < 6 from Nat.mod_lt _ (by omega))]; exact hp
    obtain ⟨q1, _⟩ := s3 (rix nx d i) (by have : rix nx d i < 6 := Nat.mod_lt _ (by omega); omega) p hs
    exact ⟨p, hp, rTr_fr hr (fun a h1 h2 => hf a (by omega))⟩
  · intro i hi
    rcases h8 i hi with h | ⟨p, hp, hk, hr⟩
    · exact Or.inl h
    · have hs : slo rg ig (6 + i) = some p := by unfold slo; rw [if_neg (by omega), Nat.add_sub_cancel_left]; exact hp
      obtain ⟨q1, _⟩ := s3 (6 + i) (by omega) p hs
      exact Or.inr ⟨p, hp, hk, rTr_fr hr (fun a h1 h2 => hf a (by omega))⟩
theorem RC_fr (h : RC w n k nw ps d im ik tv l S Fk Fx Fb) (hf : ∀ a, a < 24 ∨ 35 < a → w' a = w a) : RC w' n k nw ps d im ik tv l S Fk Fx Fb := by
  obtain ⟨h0, h1, h2, h3, h4, h5⟩ := h
  exact ⟨by rw [hf _ (by omega), h0], rTr_fr h1 (fun a _ _ => hf a (by omega)), rRH_fr h2 (fun a _ => hf a (by omega)), rRT_fr h3 (fun a _ _ => hf a (by omega)), rRP_fr h4 (fun a _ _ => hf a (by omega)), rRW_fr h5 (fun a _ _ => hf a (by omega))⟩
/-- only what the row is below 59 counts -/
theorem tRl_row {row row' kr ts co : Nat → Int32} {kc tc rm jm : Int32} {K N : Nat} (h : tRl row kr ts co kc tc rm jm K N) (he : ∀ z, z < 59 → row' z = row z) : tRl row' kr ts co kc tc rm jm K N := by
  obtain ⟨a1, a2, a3, a4, a5, a6, a7, a8, a9, a10, a11, a12, a13⟩ := h
  refine ⟨a1, a2, by rw [he _ (by omega), a3], a4, by rw [he _ (by omega), a5], a6, fun c hc f hf => by rw [he _ (by omega), a7 c hc f hf], fun t ht f hf => by rw [he _ (by omega), a8 t ht f hf], by rw [he _ (by omega), a9], fun b hb => by rw [he _ (by omega), a10 b hb], by rw [he _ (by omega), a11], ?_, ?_⟩
  · intro c hc
    rw [he _ (by omega), he _ (by omega), he _ (by omega), he _ (by omega), he _ (by omega)]
    exact a12 c hc
  · intro t ht
    rw [he _ (by omega), he _ (by omega), he _ (by omega)]
    exact a13 t ht
theorem rTr_row {t : Nat} {row row' : Nat → Int32} (h : rTr w t row) (he : ∀ z, z < 59 → row' z = row z) : rTr w t row' := by
  obtain ⟨kr, ts, co, kc, tc, rm, jm, K, N, h1, h2⟩ := h
  exact ⟨kr, ts, co, kc, tc, rm, jm, K, N, h1, tRl_row h2 he⟩
theorem tRl_cp {row kr ts co kr0 ts0 co0 : Nat → Int32} {kc tc rm jm : Int32} {K N : Nat} (h : tRl row kr ts co kc tc rm jm K N) : tRl row (gcp kr kr0 30) (gcp ts ts0 18) (gcp co co0 7) kc tc rm jm K N := by
  obtain ⟨a1, a2, a3, a4, a5, a6, a7, a8, a9, a10, a11, a12⟩ := h
  refine ⟨a1, a2, a3, a4, a5, a6, fun c hc f hf => ?_, fun t ht f hf => ?_, a9, fun b hb => ?_, a11, a12⟩
  · unfold gcp; rw [if_pos (by omega)]; exact a7 c hc f hf
  · unfold gcp; rw [if_pos (by omega)]; exact a8 t ht f hf
  · unfold gcp; rw [if_pos hb]; exact a10 b hb
theorem fr_up {rg ig : Nat → Option Nat} {nx p : Nat} (h : nx < 6) (hn : rg nx = none) : frs rg ig = frs (va_up rg nx (some p)) ig + 1 := by
  have hc : nx = 0 ∨ nx = 1 ∨ nx = 2 ∨ nx = 3 ∨ nx = 4 ∨ nx = 5 := by omega
  unfold frs
  rcases hc with rfl | rfl | rfl | rfl | rfl | rfl <;> simp [va_up, hn, fr1] <;> omega
theorem fr_up2 {rg ig : Nat → Option Nat} {i p : Nat} (h : i < 2) (hn : ig i = none) : frs rg ig = frs rg (va_up ig i (some p)) + 1 := by
  have hc : i = 0 ∨ i = 1 := by omega
  unfold frs
  rcases hc with rfl | rfl
  · simp [va_up, hn, fr1]; omega
  · simp [va_up, hn, fr1]
end RA
