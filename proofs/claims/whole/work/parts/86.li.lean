/-! BOTH TOGETHER -/
section LA
variable {w w' : gH} {o : Nat} {nw rd ps im ik tx fa al be fo io : Nat → Int32} {de le pz tk ta va se it ln fz fb fm : Int32}
theorem mW_in {a : Nat} (h : o ≤ a) (h2 : a ≤ o + 11) : (mW w o nw rd ps de im ik tx le pz tk ta va fa se it al ln fz fb be fo fm io) a = (mW w' o nw rd ps de im ik tx le pz tk ta va fa se it al ln fz fb be fo fm io) a := by
  obtain ⟨i, rfl⟩ : ∃ i, a = o + i := ⟨a - o, by omega⟩
  have : i = 0 ∨ i = 1 ∨ i = 2 ∨ i = 3 ∨ i = 4 ∨ i = 5 ∨ i = 6 ∨ i = 7 ∨ i = 8 ∨ i = 9 ∨ i = 10 ∨ i = 11 := by omega
  unfold mW
  rcases this with rfl | rfl | rfl | rfl | rfl | rfl | rfl | rfl | rfl | rfl | rfl | rfl <;> simp
end LA
def RM (w : gH) (nw ps : Nat → Int32) (d : Nat) (im ik : Nat → Int32) (tv : Nat → Nat) (l S : Nat) (Fk Fx Fb : Nat → Nat) : Prop := ∃ rd tx pz tk ta va fa it al ln fz fb be fo fm io, w = mW w 24 nw rd ps (nI d) im ik tx (nI l) pz tk ta va fa (nI S) it al ln fz fb be fo fm io ∧ gtx tx tv l ∧ gFa fa Fk Fx Fb S
def LI (w : gH) (n k : Nat) : Prop := ∃ nw ps d im ik tv l S Fk Fx Fb, RC w n k nw ps d im ik tv l S Fk Fx Fb ∧ RM w nw ps d im ik tv l S Fk Fx Fb
section LB
variable {w w' : gH} {n k : Nat} {nw ps im ik : Nat → Int32} {d l S : Nat} {tv Fk Fx Fb : Nat → Nat}
theorem RM_fr (h : RM w nw ps d im ik tv l S Fk Fx Fb) (hf : ∀ a, 24 ≤ a → a ≤ 35 → w' a = w a) : RM w' nw ps d im ik tv l S Fk Fx Fb := by
  obtain ⟨rd, tx, pz, tk, ta, va, fa, it, al, ln, fz, fb, be, fo, fm, io, hw, h1, h2⟩ := h
  refine ⟨rd, tx, pz, tk, ta, va, fa, it, al, ln, fz, fb, be, fo, fm, io, ?_, h1, h2⟩
  funext a
  by_cases q : 24 ≤ a ∧ a ≤ 35
  · rw [hf a q.1 q.2, hw]
    exact mW_in q.1 (by omega)
  · rw [mW_ne (by omega)]
theorem LI_mk {rd tx fa al be fo io : Nat → Int32} {pz tk ta va it ln fz fb fm : Int32} (h : RC w n k nw ps d im ik tv l S Fk Fx Fb) (h1 : gtx tx tv l) (h2 : gFa fa Fk Fx Fb S) : LI (mW w 24 nw rd ps (nI d) im ik tx (nI l) pz tk ta va fa (nI S) it al ln fz fb be fo fm io) n k := by
  refine ⟨nw, ps, d, im, ik, tv, l, S, Fk, Fx, Fb, RC_fr h (fun a ha => mW_ne (by omega)), rd, tx, pz, tk, ta, va, fa, it, al, ln, fz, fb, be, fo, fm, io, ?_, h1, h2⟩
  funext a
  by_cases q : 24 ≤ a ∧ a ≤ 35
  · exact mW_in q.1 (by omega)
  · rw [mW_ne (by omega), mW_ne (by omega), mW_ne (by omega)]
theorem RC_deed {w1 : gH} {n1 k1 d' K N : Nat} {nw' ps' kr ts co : Nat → Int32} {kc tc rm jm : Int32} (h : RC w n k nw ps d im ik tv l S Fk Fx Fb) (hH : rRH w1 n1 k1 ps' d' im ik) (hf : ∀ a, a ≠ 5 → a ≠ 6 → a < 36 → w1 a = w a) (hR : tRl nw' kr ts co kc tc rm jm K N) : RC (sTr w1 1 kr ts co kc tc rm jm) n1 k1 nw' ps' d' im ik tv l S Fk Fx Fb := by
  obtain ⟨h0, h1, h2, h3, h4, h5⟩ := h
  have fa : ∀ a, a ≠ 5 → a ≠ 6 → a < 36 → (a < 1 ∨ 1 + 3 < a) → sTr w1 1 kr ts co kc tc rm jm a = w a := fun a q1 q2 q3 q4 => by rw [sTr_ne q4, hf a q1 q2 q3]
  refine ⟨by rw [fa 0 (by omega) (by omega) (by omega) (by omega), h0], ⟨kr, ts, co, kc, tc, rm, jm, K, N, sTr_is, hR⟩, rRH_fr hH (fun a ha => sTr_ne (by omega)), rRT_fr h3 (fun a q1 q2 => fa a (by omega) (by omega) (by omega) (by omega)), rRP_fr h4 (fun a q1 q2 => fa a (by omega) (by omega) (by omega) (by omega)), rRW_fr h5 (fun a q1 q2 => fa a (by omega) (by omega) (by omega) (by omega))⟩
theorem RM_deed {w1 : gH} {kr ts co : Nat → Int32} {kc tc rm jm : Int32} (h : RM w nw ps d im ik tv l S Fk Fx Fb) (hf : ∀ a, a ≠ 5 → a ≠ 6 → a < 36 → w1 a = w a) : RM (sTr w1 1 kr ts co kc tc rm jm) nw ps d im ik tv l S Fk Fx Fb := RM_fr h (fun a q1 q2 => by rw [sTr_ne (by omega), hf a (by omega) (by omega) (by omega)])
theorem RC_tW {lt nb : Nat → Int32} {tt st en : Int32} {tv' : Nat → Nat} {l' : Nat} (h : RC w n k nw ps d im ik tv l S Fk Fx Fb) (hg : gtx lt tv' l') : RC (tW w lt nb (nI l') tt st en) n k nw ps d im ik tv' l' S Fk Fx Fb := by
  obtain ⟨h0, h1, h2, ⟨_, _, _, _, _, _, _, _, _, h11⟩, h4, h5⟩ := h
  exact ⟨by rw [tW_ne (by omega), h0], rTr_fr h1 (fun a _ _ => tW_ne (by omega)), rRH_fr h2 (fun a _ => tW_ne (by omega)), ⟨lt, nb, tt, st, en, rfl, rfl, rfl, hg, shT_fr h11 (fun a _ _ => tW_ne (by omega))⟩, rRP_fr h4 (fun a _ _ => tW_ne (by omega)), rRW_fr h5 (fun a _ _ => tW_ne (by omega))⟩
theorem RM_tW {lt nb : Nat → Int32} {tl tt st en : Int32} (h : RM w nw ps d im ik tv l S Fk Fx Fb) : RM (tW w lt nb tl tt st en) nw ps d im ik tv l S Fk Fx Fb := RM_fr h (fun a q1 q2 => tW_ne (by omega))
theorem RC_wW {sr su ty : Nat → Int32} {sz : Int32} {S' : Nat} {Fk' Fx' Fb' : Nat → Nat} (h : RC w n k nw ps d im ik tv l S Fk Fx Fb) (hg : gFa sr Fk' Fx' Fb' S') : RC (wW w sr su ty (nI S') sz) n k nw ps d im ik tv l S' Fk' Fx' Fb' := by
  obtain ⟨h0, h1, h2, h3, h4, h5⟩ := h
  exact ⟨by rw [wW_ne (by omega), h0], rTr_fr h1 (fun a _ _ => wW_ne (by omega)), rRH_fr h2 (fun a _ => wW_ne (by omega)), rRT_fr h3 (fun a _ _ => wW_ne (by omega)), rRP_fr h4 (fun a _ _ => wW_ne (by omega)), ⟨sr, su, ty, sz, rfl, rfl, rfl, rfl, hg⟩⟩
theorem RM_wW {sr su ty : Nat → Int32} {sc sz : Int32} (h : RM w nw ps d im ik tv l S Fk Fx Fb) : RM (wW w sr su ty sc sz) nw ps d im ik tv l S Fk Fx Fb := RM_fr h (fun a q1 q2 => wW_ne (by omega))
theorem RC_pW {vk vs rp nt : Nat → Int32} {vc : Int32} (h : RC w n k nw ps d im ik tv l S Fk Fx Fb) : RC (pW w vk vs vc rp nt) n k nw ps d im ik tv l S Fk Fx Fb := by
  obtain ⟨h0, h1, h2, h3, h4, h5⟩ := h
  exact ⟨by rw [pW_ne (by omega), h0], rTr_fr h1 (fun a _ _ => pW_ne (by omega)), rRH_fr h2 (fun a _ => pW_ne (by omega)), rRT_fr h3 (fun a _ _ => pW_ne (by omega)), ⟨vk, vs, vc, rp, nt, rfl, rfl, rfl, rfl, rfl⟩, rRW_fr h5 (fun a _ _ => pW_ne (by omega))⟩
theorem RM_pW {vk vs rp nt : Nat → Int32} {vc : Int32} (h : RM w nw ps d im ik tv l S Fk Fx Fb) : RM (pW w vk vs vc rp nt) nw ps d im ik tv l S Fk Fx Fb := RM_fr h (fun a q1 q2 => pW_ne (by omega))
end LB
/-- a call of the class, then the same call of the plain form: the same answer, and they belong together still -/
def GG (X : gX) (i j : Nat) (as bs : List Value) (n k : Nat) (w : gH) : Prop := gEv (gT X) i 0 as [] n k w (fun v n1 k1 w1 => ∃ r, v = some (.int r) ∧ gisO 6 (w1 24) = true ∧ gEv (gT X) j 0 bs [] n1 k1 w1 (fun v2 n2 k2 w2 => v2 = some (.int r) ∧ LI w2 n2 k2))
