/-! THE STEPS ARE THE MACHINE'S -/
section OKS
variable {mt : Nat → gM} {X : gX} {i pc : Nat} {y : MethodName} {B : ByteArray} {L lv : Nat} {r : Option FieldType} {O : String}
theorem gv_cat {sv : Nat → Value} {ad : Nat → Nat} (h : ∀ j, sv j = .null ∨ ∃ a, sv j = .ref a) (v : Value) : (gv sv ad v).category = v.category := by
  cases v with
  | retAddr j =>
    show (sv j).category = 1
    rcases h j with e | ⟨a, e⟩ <;> rw [e] <;> rfl
  | _ => rfl
theorem gcat_map {sv : Nat → Value} {ad : Nat → Nat} (h : ∀ j, sv j = .null ∨ ∃ a, sv j = .ref a) (st : List Value) : ((st.map (gv sv ad)).map fun v => v.category).sum = gcat st := by
  unfold gcat
  rw [List.map_map]
  congr 1
  exact List.map_congr_left fun v _ => gv_cat h v
theorem gLo_set {sv : Nat → Value} {ad : Nat → Nat} (hsv : ∀ j, sv j = .null ∨ ∃ a, sv j = .ref a) {la' : Array Slot} {ls : List Value} {j : Nat} {v : Value} (hj : j < ls.length) (hf : gfree ls j = true) (h : lv_has la' ls.length ((j, gv sv ad v) :: (gll sv ad ls).filter (fun q => !(q.1 == j) && !(q.1 + 1 == j && q.2.category == 2)))) : gLo sv ad la' (ls.set j v) := by
  refine ⟨by rw [h.1, List.length_set], h.2.1, fun b u hb hu => ?_⟩
  rw [List.getElem?_set] at hb
  by_cases e : j = b
  · subst e
    rw [if_pos rfl, if_pos hj] at hb
    cases hb
    exact h.2.2 (j, _) List.mem_cons_self
  · rw [if_neg e] at hb
    refine h.2.2 (b, gv sv ad u) (List.mem_cons_of_mem _ (List.mem_filter.mpr ⟨gll_mem.mpr ⟨u, hb, hu, rfl⟩, ?_⟩))
    have e1 : (b == j) = false := by simpa using Ne.symm e
    have e2 : (b + 1 == j && (gv sv ad u).category == 2) = false := by
      by_cases e3 : b + 1 = j
      · subst e3
        have e4 : u.category = 1 := by simpa [gfree, hb] using hf
        rw [gv_cat hsv, e4]
        simp
      · have e5 : (b + 1 == j) = false := by simpa using e3
        rw [e5]
        rfl
    show (!(b == j) && !(b + 1 == j && (gv sv ad u).category == 2)) = true
    rw [e1, e2]
    rfl
theorem gLo_setL {sv : Nat → Value} {ad : Nat → Nat} (hsv : ∀ j, sv j = .null ∨ ∃ a, sv j = .ref a) {la' : Array Slot} {ls : List Value} {j : Nat} {v : Value} (hj : j + 1 < ls.length) (hf : gfree ls j = true) (h : lv_has la' ls.length ((j, gv sv ad v) :: (gll sv ad ls).filter (fun q => !(q.1 == j) && (!(q.1 == j + 1) && !(q.1 + 1 == j && q.2.category == 2))))) : gLo sv ad la' ((ls.set j v).set (j + 1) .null) := by
  refine ⟨by rw [h.1, List.length_set, List.length_set], h.2.1, fun b u hb hu => ?_⟩
  rw [List.getElem?_set] at hb
  by_cases e0 : j + 1 = b
  · subst e0
    rw [if_pos rfl] at hb
    split at hb
    · cases hb
      exact absurd rfl hu
    · cases hb
  · rw [if_neg e0, List.getElem?_set] at hb
    by_cases e : j = b
    · subst e
      rw [if_pos rfl, if_pos (by omega)] at hb
      cases hb
      exact h.2.2 (j, _) List.mem_cons_self
    · rw [if_neg e] at hb
      refine h.2.2 (b, gv sv ad u) (List.mem_cons_of_mem _ (List.mem_filter.mpr ⟨gll_mem.mpr ⟨u, hb, hu, rfl⟩, ?_⟩))
      have e1 : (b == j) = false := by simpa using Ne.symm e
      have e6 : (b == j + 1) = false := by simpa using Ne.symm e0
      have e2 : (b + 1 == j && (gv sv ad u).category == 2) = false := by
        by_cases e3 : b + 1 = j
        · subst e3
          have e4 : u.category = 1 := by simpa [gfree, hb] using hf
          rw [gv_cat hsv, e4]
          simp
        · have e5 : (b + 1 == j) = false := by simpa using e3
          rw [e5]
          rfl
      show (!(b == j) && (!(b == j + 1) && !(b + 1 == j && (gv sv ad u).category == 2))) = true
      rw [e1, e2, e6]
      rfl
/-- a step that changes the stack alone -/
theorem ok_pure {o : gS → Option (Nat × gS)} (h : ∀ (S : gS) (q : Nat) (S' : gS), o S = some (q, S') → gwf S → S'.1 = S.1 ∧ S'.2.2 = S.2.2 ∧ (∀ v ∈ S'.2.1, gok S.2.2.1 v) ∧
    ∀ (p : Program) (l : Launch) (e : Env) (R : Room) (s : State) (m : MethodId) (args : Array Value) (below : List Frame) (meth : Method) (c : Code) (D : va_G) (ca : FieldType → ClassId) (sv : Nat → Value) (A : Nat → Prop) (Qf : State → Prop) (cells slots : Nat) (ad : Nat → Nat) (H : Heap) (locs : List Loc) (la : Array Slot),
      gC mt X i p R s m args meth c D ca sv A → cells ≤ R.cells → slots ≤ R.slots → S.1.length = (mt i).2.2.1 → va_P D vwCl (gL ca sv ad S.2.2.1 S.2.2.2.2) H → va_D A (gL ca sv ad S.2.2.1 S.2.2.2.2) → va_S A s.heap H locs → gLo sv ad la S.1 →
      W p l e R s m args below meth c H locs cells slots Qf (F0 m q la (S'.2.1.map (gv sv ad))) → W p l e R s m args below meth c H locs cells slots Qf (F0 m pc la (S.2.1.map (gv sv ad)))) : gOk mt X i pc o := by
  intro S q S' ho hw
  obtain ⟨h1, h2, h3, h4⟩ := h S q S' ho hw
  obtain ⟨ls, st, n, k, w⟩ := S
  obtain ⟨ls', st', nkw⟩ := S'
  dsimp only at h1 h2 h3 h4
  subst h1
  subst h2
  refine ⟨⟨hw.1, h3, hw.2.2⟩, Nat.le_refl _, Nat.le_refl _, rfl, ?_⟩
  intro p l e R s m args below meth c D ca sv A n0 k0 ad0 Qf hC hn hk hL hc hs K ad H locs la hR
  exact h4 p l e R s m args below meth c D ca sv A Qf _ _ ad H locs la hC hc hs hL hR.1 hR.2.1 hR.2.2.1 hR.2.2.2.1 (K ad H locs la hR)

theorem ok_iconst (hM : mt i = (y, B, L, r, O, lv)) {a : Int} {v : Int32} (hd : decode B pc = .ok (.iconst a, 1)) (hv : Int32.ofInt a = v) : gOk mt X i pc (oCst (.int v) (pc + 1)) := by
  refine ok_pure ?_
  intro S q S' ho hw
  obtain ⟨ls, st, n, k, w⟩ := S
  obtain ⟨hw1, hw2, hw3⟩ := hw
  dsimp only at hw1 hw2 hw3
  simp only [oCst] at ho
  cases ho
  refine ⟨rfl, rfl, fun u hu => by
    rcases List.mem_cons.mp hu with rfl | h
    · exact gok_int
    · exact hw2 u h, ?_⟩
  intro p l e R s m args below meth c D ca sv A Qf cells slots ad H locs la hC hc hs hL hP hD hS hl K
  obtain ⟨hx, hb, hml, hr, hown, hts, hlk, hK, hN, hZ, hA, hnm, hfr, hlo⟩ := hC
  rw [hM] at hb hml hr hown hnm hfr hlo
  dsimp only at hb hml hr hown hnm hfr hlo
  exact lv_iconst hx hb hd hv K
theorem ok_bipush (hM : mt i = (y, B, L, r, O, lv)) {a : Int} {v : Int32} (hd : decode B pc = .ok (.bipush a, 2)) (hv : (Int8.ofInt a).toInt32 = v) : gOk mt X i pc (oCst (.int v) (pc + 2)) := by
  refine ok_pure ?_
  intro S q S' ho hw
  obtain ⟨ls, st, n, k, w⟩ := S
  obtain ⟨hw1, hw2, hw3⟩ := hw
  dsimp only at hw1 hw2 hw3
  simp only [oCst] at ho
  cases ho
  refine ⟨rfl, rfl, fun u hu => by
    rcases List.mem_cons.mp hu with rfl | h
    · exact gok_int
    · exact hw2 u h, ?_⟩
  intro p l e R s m args below meth c D ca sv A Qf cells slots ad H locs la hC hc hs hL hP hD hS hl K
  obtain ⟨hx, hb, hml, hr, hown, hts, hlk, hK, hN, hZ, hA, hnm, hfr, hlo⟩ := hC
  rw [hM] at hb hml hr hown hnm hfr hlo
  dsimp only at hb hml hr hown hnm hfr hlo
  exact lv_bipush hx hb hd hv K
theorem ok_sipush (hM : mt i = (y, B, L, r, O, lv)) {a : Int} {v : Int32} (hd : decode B pc = .ok (.sipush a, 3)) (hv : (Int16.ofInt a).toInt32 = v) : gOk mt X i pc (oCst (.int v) (pc + 3)) := by
  refine ok_pure ?_
  intro S q S' ho hw
  obtain ⟨ls, st, n, k, w⟩ := S
  obtain ⟨hw1, hw2, hw3⟩ := hw
  dsimp only at hw1 hw2 hw3
  simp only [oCst] at ho
  cases ho
  refine ⟨rfl, rfl, fun u hu => by
    rcases List.mem_cons.mp hu with rfl | h
    · exact gok_int
    · exact hw2 u h, ?_⟩
  intro p l e R s m args below meth c D ca sv A Qf cells slots ad H locs la hC hc hs hL hP hD hS hl K
  obtain ⟨hx, hb, hml, hr, hown, hts, hlk, hK, hN, hZ, hA, hnm, hfr, hlo⟩ := hC
  rw [hM] at hb hml hr hown hnm hfr hlo
  dsimp only at hb hml hr hown hnm hfr hlo
  exact lv_sipush hx hb hd hv K
theorem ok_lconst (hM : mt i = (y, B, L, r, O, lv)) {a : Fin 2} {v : Int64} (hd : decode B pc = .ok (.lconst a, 1)) (hv : Int64.ofNat (a : Nat) = v) : gOk mt X i pc (oCst (.long v) (pc + 1)) := by
  refine ok_pure ?_
  intro S q S' ho hw
  obtain ⟨ls, st, n, k, w⟩ := S
  obtain ⟨hw1, hw2, hw3⟩ := hw
  dsimp only at hw1 hw2 hw3
  simp only [oCst] at ho
  cases ho
  refine ⟨rfl, rfl, fun u hu => by
    rcases List.mem_cons.mp hu with rfl | h
    · exact gok_long
    · exact hw2 u h, ?_⟩
  intro p l e R s m args below meth c D ca sv A Qf cells slots ad H locs la hC hc hs hL hP hD hS hl K
  obtain ⟨hx, hb, hml, hr, hown, hts, hlk, hK, hN, hZ, hA, hnm, hfr, hlo⟩ := hC
  rw [hM] at hb hml hr hown hnm hfr hlo
  dsimp only at hb hml hr hown hnm hfr hlo
  exact lv_lconst hx hb hd hv K
theorem ok_ldc (hM : mt i = (y, B, L, r, O, lv)) {a : Nat} {v : Int32} (hd : decode B pc = .ok (.ldc a, 2)) (hw0 : Cond.constant O a v ∈ gWs) : gOk mt X i pc (oCst (.int v) (pc + 2)) := by
  refine ok_pure ?_
  intro S q S' ho hw
  obtain ⟨ls, st, n, k, w⟩ := S
  obtain ⟨hw1, hw2, hw3⟩ := hw
  dsimp only at hw1 hw2 hw3
  simp only [oCst] at ho
  cases ho
  refine ⟨rfl, rfl, fun u hu => by
    rcases List.mem_cons.mp hu with rfl | h
    · exact gok_int
    · exact hw2 u h, ?_⟩
  intro p l e R s m args below meth c D ca sv A Qf cells slots ad H locs la hC hc hs hL hP hD hS hl K
  obtain ⟨hx, hb, hml, hr, hown, hts, hlk, hK, hN, hZ, hA, hnm, hfr, hlo⟩ := hC
  rw [hM] at hb hml hr hown hnm hfr hlo
  dsimp only at hb hml hr hown hnm hfr hlo
  exact lv_ldc hx hb hown (hts _ hw0) hd K
theorem ok_ldcw (hM : mt i = (y, B, L, r, O, lv)) {a : Nat} {v : Int32} (hd : decode B pc = .ok (.ldc_w a, 3)) (hw0 : Cond.constant O a v ∈ gWs) : gOk mt X i pc (oCst (.int v) (pc + 3)) := by
  refine ok_pure ?_
  intro S q S' ho hw
  obtain ⟨ls, st, n, k, w⟩ := S
  obtain ⟨hw1, hw2, hw3⟩ := hw
  dsimp only at hw1 hw2 hw3
  simp only [oCst] at ho
  cases ho
  refine ⟨rfl, rfl, fun u hu => by
    rcases List.mem_cons.mp hu with rfl | h
    · exact gok_int
    · exact hw2 u h, ?_⟩
  intro p l e R s m args below meth c D ca sv A Qf cells slots ad H locs la hC hc hs hL hP hD hS hl K
  obtain ⟨hx, hb, hml, hr, hown, hts, hlk, hK, hN, hZ, hA, hnm, hfr, hlo⟩ := hC
  rw [hM] at hb hml hr hown hnm hfr hlo
  dsimp only at hb hml hr hown hnm hfr hlo
  exact lv_ldcw hx hb hown (hts _ hw0) hd K
theorem ok_ldc2 (hM : mt i = (y, B, L, r, O, lv)) {a : Nat} {v : Int64} (hd : decode B pc = .ok (.ldc2_w a, 3)) (hw0 : Cond.constantLong O a v ∈ gWs) : gOk mt X i pc (oCst (.long v) (pc + 3)) := by
  refine ok_pure ?_
  intro S q S' ho hw
  obtain ⟨ls, st, n, k, w⟩ := S
  obtain ⟨hw1, hw2, hw3⟩ := hw
  dsimp only at hw1 hw2 hw3
  simp only [oCst] at ho
  cases ho
  refine ⟨rfl, rfl, fun u hu => by
    rcases List.mem_cons.mp hu with rfl | h
    · exact gok_long
    · exact hw2 u h, ?_⟩
  intro p l e R s m args below meth c D ca sv A Qf cells slots ad H locs la hC hc hs hL hP hD hS hl K
  obtain ⟨hx, hb, hml, hr, hown, hts, hlk, hK, hN, hZ, hA, hnm, hfr, hlo⟩ := hC
  rw [hM] at hb hml hr hown hnm hfr hlo
  dsimp only at hb hml hr hown hnm hfr hlo
  exact lv_ldc2 hx hb hown (hts _ hw0) hd K
theorem ok_ldcS (hM : mt i = (y, B, L, r, O, lv)) {j : Nat} (hj : j < 5) (hO : O = "CoinTrack$Teller") (hd : decode B pc = .ok (.ldc (gKs.getD j (0, "")).1, 2)) : gOk mt X i pc (oCst (.retAddr (j + 1)) (pc + 2)) := by
  refine ok_pure ?_
  intro S q S' ho hw
  obtain ⟨ls, st, n, k, w⟩ := S
  obtain ⟨hw1, hw2, hw3⟩ := hw
  dsimp only at hw1 hw2 hw3
  simp only [oCst] at ho
  cases ho
  refine ⟨rfl, rfl, fun u hu => by
    rcases List.mem_cons.mp hu with rfl | h
    · exact gok_ret
    · exact hw2 u h, ?_⟩
  intro p l e R s m args below meth c D ca sv A Qf cells slots ad H locs la hC hc hs hL hP hD hS hl K
  obtain ⟨hx, hb, hml, hr, hown, hts, hlk, hK, hN, hZ, hA, hnm, hfr, hlo⟩ := hC
  rw [hM] at hb hml hr hown hnm hfr hlo
  dsimp only at hb hml hr hown hnm hfr hlo
  exact by
    obtain ⟨adK, adV, h5, h6, h7⟩ := hZ.2.1
    subst hO
    have e1 : gv sv ad (.retAddr (j + 1)) = .ref (adK j) := (h5 j hj).1
    simp only [List.map_cons, e1] at K
    exact va_ldcS hx hb hown (h7 j hj) hd K
theorem ok_getsC (hM : mt i = (y, B, L, r, O, lv)) {a : Nat} (hd : decode B pc = .ok (.getstatic a, 3)) (hw0 : Cond.fieldLink O a "java/lang/String" "COMPACT_STRINGS" "Z" ∈ gWs) : gOk mt X i pc (oCst (.int 1) (pc + 3)) := by
  refine ok_pure ?_
  intro S q S' ho hw
  obtain ⟨ls, st, n, k, w⟩ := S
  obtain ⟨hw1, hw2, hw3⟩ := hw
  dsimp only at hw1 hw2 hw3
  simp only [oCst] at ho
  cases ho
  refine ⟨rfl, rfl, fun u hu => by
    rcases List.mem_cons.mp hu with rfl | h
    · exact gok_int
    · exact hw2 u h, ?_⟩
  intro p l e R s m args below meth c D ca sv A Qf cells slots ad H locs la hC hc hs hL hP hD hS hl K
  obtain ⟨hx, hb, hml, hr, hown, hts, hlk, hK, hN, hZ, hA, hnm, hfr, hlo⟩ := hC
  rw [hM] at hb hml hr hown hnm hfr hlo
  dsimp only at hb hml hr hown hnm hfr hlo
  exact va_gets hx hb hZ.2.2.1 hS hown (hts _ hw0) (fun _ h9 => h9) hd K
theorem ok_getsF (hM : mt i = (y, B, L, r, O, lv)) {a : Nat} (hd : decode B pc = .ok (.getstatic a, 3)) (hw0 : Cond.fieldLink O a "jdk/internal/util/Preconditions" "SIOOBE_FORMATTER" "Ljava/util/function/BiFunction;" ∈ gWs) : gOk mt X i pc (oCst (.retAddr 90) (pc + 3)) := by
  refine ok_pure ?_
  intro S q S' ho hw
  obtain ⟨ls, st, n, k, w⟩ := S
  obtain ⟨hw1, hw2, hw3⟩ := hw
  dsimp only at hw1 hw2 hw3
  simp only [oCst] at ho
  cases ho
  refine ⟨rfl, rfl, fun u hu => by
    rcases List.mem_cons.mp hu with rfl | h
    · exact gok_ret
    · exact hw2 u h, ?_⟩
  intro p l e R s m args below meth c D ca sv A Qf cells slots ad H locs la hC hc hs hL hP hD hS hl K
  obtain ⟨hx, hb, hml, hr, hown, hts, hlk, hK, hN, hZ, hA, hnm, hfr, hlo⟩ := hC
  rw [hM] at hb hml hr hown hnm hfr hlo
  dsimp only at hb hml hr hown hnm hfr hlo
  exact va_gets hx hb hZ.2.2.2.1 hS hown (hts _ hw0) (fun _ h9 => h9) hd K
theorem ok_iload_n (hM : mt i = (y, B, L, r, O, lv)) {j : Nat} {a : Fin 4} (hd : decode B pc = .ok (.iload_n a, 1)) (ha : (a : Nat) = j) : gOk mt X i pc (oLdI j (pc + 1)) := by
  refine ok_pure ?_
  intro S q S' ho hw
  obtain ⟨ls, st, n, k, w⟩ := S
  obtain ⟨hw1, hw2, hw3⟩ := hw
  dsimp only at hw1 hw2 hw3
  simp only [oLdI] at ho
  split at ho
  · rename_i x hj
    cases ho
    refine ⟨rfl, rfl, fun u hu => ?_, ?_⟩
    · rcases List.mem_cons.mp hu with rfl | h
      · exact hw1 _ (List.mem_of_getElem? hj)
      · exact hw2 u h
    · intro p l e R s m args below meth c D ca sv A Qf cells slots ad H locs la hC hc hs hL hP hD hS hl K
      obtain ⟨hx, hb, hml, hr, hown, hts, hlk, hK, hN, hZ, hA, hnm, hfr, hlo⟩ := hC
      rw [hM] at hb hml hr hown hnm hfr hlo
      dsimp only at hb hml hr hown hnm hfr hlo
      exact lv_iload_n hx hb hd ha (hl.2.2 j _ hj (by simp)) K
  · cases ho
theorem ok_iload (hM : mt i = (y, B, L, r, O, lv)) {j : Nat} (hd : decode B pc = .ok (.iload j, 2)) : gOk mt X i pc (oLdI j (pc + 2)) := by
  refine ok_pure ?_
  intro S q S' ho hw
  obtain ⟨ls, st, n, k, w⟩ := S
  obtain ⟨hw1, hw2, hw3⟩ := hw
  dsimp only at hw1 hw2 hw3
  simp only [oLdI] at ho
  split at ho
  · rename_i x hj
    cases ho
    refine ⟨rfl, rfl, fun u hu => ?_, ?_⟩
    · rcases List.mem_cons.mp hu with rfl | h
      · exact hw1 _ (List.mem_of_getElem? hj)
      · exact hw2 u h
    · intro p l e R s m args below meth c D ca sv A Qf cells slots ad H locs la hC hc hs hL hP hD hS hl K
      obtain ⟨hx, hb, hml, hr, hown, hts, hlk, hK, hN, hZ, hA, hnm, hfr, hlo⟩ := hC
      rw [hM] at hb hml hr hown hnm hfr hlo
      dsimp only at hb hml hr hown hnm hfr hlo
      exact lv_iload hx hb hd (hl.2.2 j _ hj (by simp)) K
  · cases ho
theorem ok_lload_n (hM : mt i = (y, B, L, r, O, lv)) {j : Nat} {a : Fin 4} (hd : decode B pc = .ok (.lload_n a, 1)) (ha : (a : Nat) = j) : gOk mt X i pc (oLdL j (pc + 1)) := by
  refine ok_pure ?_
  intro S q S' ho hw
  obtain ⟨ls, st, n, k, w⟩ := S
  obtain ⟨hw1, hw2, hw3⟩ := hw
  dsimp only at hw1 hw2 hw3
  simp only [oLdL] at ho
  split at ho
  · rename_i x hj
    cases ho
    refine ⟨rfl, rfl, fun u hu => ?_, ?_⟩
    · rcases List.mem_cons.mp hu with rfl | h
      · exact hw1 _ (List.mem_of_getElem? hj)
      · exact hw2 u h
    · intro p l e R s m args below meth c D ca sv A Qf cells slots ad H locs la hC hc hs hL hP hD hS hl K
      obtain ⟨hx, hb, hml, hr, hown, hts, hlk, hK, hN, hZ, hA, hnm, hfr, hlo⟩ := hC
      rw [hM] at hb hml hr hown hnm hfr hlo
      dsimp only at hb hml hr hown hnm hfr hlo
      exact lv_lload_n hx hb hd ha (hl.2.2 j _ hj (by simp)) K
  · cases ho
theorem ok_aload_n (hM : mt i = (y, B, L, r, O, lv)) {j : Nat} {a : Fin 4} (hd : decode B pc = .ok (.aload_n a, 1)) (ha : (a : Nat) = j) : gOk mt X i pc (oLdA j (pc + 1)) := by
  refine ok_pure ?_
  intro S q S' ho hw
  obtain ⟨ls, st, n, k, w⟩ := S
  obtain ⟨hw1, hw2, hw3⟩ := hw
  dsimp only at hw1 hw2 hw3
  simp only [oLdA] at ho
  split at ho
  · rename_i x hj
    cases ho
    refine ⟨rfl, rfl, fun u hu => ?_, ?_⟩
    · rcases List.mem_cons.mp hu with rfl | h
      · exact hw1 _ (List.mem_of_getElem? hj)
      · exact hw2 u h
    · intro p l e R s m args below meth c D ca sv A Qf cells slots ad H locs la hC hc hs hL hP hD hS hl K
      obtain ⟨hx, hb, hml, hr, hown, hts, hlk, hK, hN, hZ, hA, hnm, hfr, hlo⟩ := hC
      rw [hM] at hb hml hr hown hnm hfr hlo
      dsimp only at hb hml hr hown hnm hfr hlo
      exact lv_aload_n hx hb hd ha (hl.2.2 j _ hj (by simp)) K
  · rename_i x hj
    split at ho
    · rename_i hx20
      cases ho
      refine ⟨rfl, rfl, fun u hu => ?_, ?_⟩
      · rcases List.mem_cons.mp hu with rfl | h
        · exact gok_ret
        · exact hw2 u h
      · intro p l e R s m args below meth c D ca sv A Qf cells slots ad H locs la hC hc hs hL hP hD hS hl K
        obtain ⟨hx, hb, hml, hr, hown, hts, hlk, hK, hN, hZ, hA, hnm, hfr, hlo⟩ := hC
        rw [hM] at hb hml hr hown hnm hfr hlo
        dsimp only at hb hml hr hown hnm hfr hlo
        obtain ⟨b, hb0⟩ := hZ.2.2.2.2.2 x hx20
        have e1 : gv sv ad (.retAddr x) = .ref b := hb0
        have e2 := hl.2.2 j _ hj (by simp)
        rw [e1] at e2
        simp only [List.map_cons, e1] at K
        exact lv_aload_n hx hb hd ha e2 K
    · cases ho
  · cases ho
theorem ok_aload (hM : mt i = (y, B, L, r, O, lv)) {j : Nat} (hd : decode B pc = .ok (.aload j, 2)) : gOk mt X i pc (oLdA j (pc + 2)) := by
  refine ok_pure ?_
  intro S q S' ho hw
  obtain ⟨ls, st, n, k, w⟩ := S
  obtain ⟨hw1, hw2, hw3⟩ := hw
  dsimp only at hw1 hw2 hw3
  simp only [oLdA] at ho
  split at ho
  · rename_i x hj
    cases ho
    refine ⟨rfl, rfl, fun u hu => ?_, ?_⟩
    · rcases List.mem_cons.mp hu with rfl | h
      · exact hw1 _ (List.mem_of_getElem? hj)
      · exact hw2 u h
    · intro p l e R s m args below meth c D ca sv A Qf cells slots ad H locs la hC hc hs hL hP hD hS hl K
      obtain ⟨hx, hb, hml, hr, hown, hts, hlk, hK, hN, hZ, hA, hnm, hfr, hlo⟩ := hC
      rw [hM] at hb hml hr hown hnm hfr hlo
      dsimp only at hb hml hr hown hnm hfr hlo
      exact lv_aload hx hb hd (hl.2.2 j _ hj (by simp)) K
  · rename_i x hj
    split at ho
    · rename_i hx20
      cases ho
      refine ⟨rfl, rfl, fun u hu => ?_, ?_⟩
      · rcases List.mem_cons.mp hu with rfl | h
        · exact gok_ret
        · exact hw2 u h
      · intro p l e R s m args below meth c D ca sv A Qf cells slots ad H locs la hC hc hs hL hP hD hS hl K
        obtain ⟨hx, hb, hml, hr, hown, hts, hlk, hK, hN, hZ, hA, hnm, hfr, hlo⟩ := hC
        rw [hM] at hb hml hr hown hnm hfr hlo
        dsimp only at hb hml hr hown hnm hfr hlo
        obtain ⟨b, hb0⟩ := hZ.2.2.2.2.2 x hx20
        have e1 : gv sv ad (.retAddr x) = .ref b := hb0
        have e2 := hl.2.2 j _ hj (by simp)
        rw [e1] at e2
        simp only [List.map_cons, e1] at K
        exact lv_aload hx hb hd e2 K
    · cases ho
  · cases ho
theorem ok_iadd (hM : mt i = (y, B, L, r, O, lv)) (hd : decode B pc = .ok (.iadd, 1)) : gOk mt X i pc (oBin (fun a b => a + b) (pc + 1)) := by
  refine ok_pure ?_
  intro S q S' ho hw
  obtain ⟨ls, st, n, k, w⟩ := S
  obtain ⟨hw1, hw2, hw3⟩ := hw
  dsimp only at hw1 hw2 hw3
  simp only [oBin] at ho
  split at ho
  · rename_i b a rr
    cases ho
    refine ⟨rfl, rfl, fun u hu => ?_, ?_⟩
    · rcases List.mem_cons.mp hu with rfl | h
      · exact gok_int
      · exact hw2 u (List.mem_cons_of_mem _ (List.mem_cons_of_mem _ (h)))
    · intro p l e R s m args below meth c D ca sv A Qf cells slots ad H locs la hC hc hs hL hP hD hS hl K
      obtain ⟨hx, hb, hml, hr, hown, hts, hlk, hK, hN, hZ, hA, hnm, hfr, hlo⟩ := hC
      rw [hM] at hb hml hr hown hnm hfr hlo
      dsimp only at hb hml hr hown hnm hfr hlo
      exact lv_iadd hx hb hd K
  · cases ho
theorem ok_isub (hM : mt i = (y, B, L, r, O, lv)) (hd : decode B pc = .ok (.isub, 1)) : gOk mt X i pc (oBin (fun a b => a - b) (pc + 1)) := by
  refine ok_pure ?_
  intro S q S' ho hw
  obtain ⟨ls, st, n, k, w⟩ := S
  obtain ⟨hw1, hw2, hw3⟩ := hw
  dsimp only at hw1 hw2 hw3
  simp only [oBin] at ho
  split at ho
  · rename_i b a rr
    cases ho
    refine ⟨rfl, rfl, fun u hu => ?_, ?_⟩
    · rcases List.mem_cons.mp hu with rfl | h
      · exact gok_int
      · exact hw2 u (List.mem_cons_of_mem _ (List.mem_cons_of_mem _ (h)))
    · intro p l e R s m args below meth c D ca sv A Qf cells slots ad H locs la hC hc hs hL hP hD hS hl K
      obtain ⟨hx, hb, hml, hr, hown, hts, hlk, hK, hN, hZ, hA, hnm, hfr, hlo⟩ := hC
      rw [hM] at hb hml hr hown hnm hfr hlo
      dsimp only at hb hml hr hown hnm hfr hlo
      exact lv_isub hx hb hd K
  · cases ho
theorem ok_imul (hM : mt i = (y, B, L, r, O, lv)) (hd : decode B pc = .ok (.imul, 1)) : gOk mt X i pc (oBin (fun a b => a * b) (pc + 1)) := by
  refine ok_pure ?_
  intro S q S' ho hw
  obtain ⟨ls, st, n, k, w⟩ := S
  obtain ⟨hw1, hw2, hw3⟩ := hw
  dsimp only at hw1 hw2 hw3
  simp only [oBin] at ho
  split at ho
  · rename_i b a rr
    cases ho
    refine ⟨rfl, rfl, fun u hu => ?_, ?_⟩
    · rcases List.mem_cons.mp hu with rfl | h
      · exact gok_int
      · exact hw2 u (List.mem_cons_of_mem _ (List.mem_cons_of_mem _ (h)))
    · intro p l e R s m args below meth c D ca sv A Qf cells slots ad H locs la hC hc hs hL hP hD hS hl K
      obtain ⟨hx, hb, hml, hr, hown, hts, hlk, hK, hN, hZ, hA, hnm, hfr, hlo⟩ := hC
      rw [hM] at hb hml hr hown hnm hfr hlo
      dsimp only at hb hml hr hown hnm hfr hlo
      exact lv_imul hx hb hd K
  · cases ho
theorem ok_iand (hM : mt i = (y, B, L, r, O, lv)) (hd : decode B pc = .ok (.iand, 1)) : gOk mt X i pc (oBin (fun a b => a &&& b) (pc + 1)) := by
  refine ok_pure ?_
  intro S q S' ho hw
  obtain ⟨ls, st, n, k, w⟩ := S
  obtain ⟨hw1, hw2, hw3⟩ := hw
  dsimp only at hw1 hw2 hw3
  simp only [oBin] at ho
  split at ho
  · rename_i b a rr
    cases ho
    refine ⟨rfl, rfl, fun u hu => ?_, ?_⟩
    · rcases List.mem_cons.mp hu with rfl | h
      · exact gok_int
      · exact hw2 u (List.mem_cons_of_mem _ (List.mem_cons_of_mem _ (h)))
    · intro p l e R s m args below meth c D ca sv A Qf cells slots ad H locs la hC hc hs hL hP hD hS hl K
      obtain ⟨hx, hb, hml, hr, hown, hts, hlk, hK, hN, hZ, hA, hnm, hfr, hlo⟩ := hC
      rw [hM] at hb hml hr hown hnm hfr hlo
      dsimp only at hb hml hr hown hnm hfr hlo
      exact lv_iand hx hb hd K
  · cases ho
theorem ok_ior (hM : mt i = (y, B, L, r, O, lv)) (hd : decode B pc = .ok (.ior, 1)) : gOk mt X i pc (oBin (fun a b => a ||| b) (pc + 1)) := by
  refine ok_pure ?_
  intro S q S' ho hw
  obtain ⟨ls, st, n, k, w⟩ := S
  obtain ⟨hw1, hw2, hw3⟩ := hw
  dsimp only at hw1 hw2 hw3
  simp only [oBin] at ho
  split at ho
  · rename_i b a rr
    cases ho
    refine ⟨rfl, rfl, fun u hu => ?_, ?_⟩
    · rcases List.mem_cons.mp hu with rfl | h
      · exact gok_int
      · exact hw2 u (List.mem_cons_of_mem _ (List.mem_cons_of_mem _ (h)))
    · intro p l e R s m args below meth c D ca sv A Qf cells slots ad H locs la hC hc hs hL hP hD hS hl K
      obtain ⟨hx, hb, hml, hr, hown, hts, hlk, hK, hN, hZ, hA, hnm, hfr, hlo⟩ := hC
      rw [hM] at hb hml hr hown hnm hfr hlo
      dsimp only at hb hml hr hown hnm hfr hlo
      exact lv_ior hx hb hd K
  · cases ho
theorem ok_ishl (hM : mt i = (y, B, L, r, O, lv)) (hd : decode B pc = .ok (.ishl, 1)) : gOk mt X i pc (oBin (fun a b => a <<< (b &&& 31)) (pc + 1)) := by
  refine ok_pure ?_
  intro S q S' ho hw
  obtain ⟨ls, st, n, k, w⟩ := S
  obtain ⟨hw1, hw2, hw3⟩ := hw
  dsimp only at hw1 hw2 hw3
  simp only [oBin] at ho
  split at ho
  · rename_i b a rr
    cases ho
    refine ⟨rfl, rfl, fun u hu => ?_, ?_⟩
    · rcases List.mem_cons.mp hu with rfl | h
      · exact gok_int
      · exact hw2 u (List.mem_cons_of_mem _ (List.mem_cons_of_mem _ (h)))
    · intro p l e R s m args below meth c D ca sv A Qf cells slots ad H locs la hC hc hs hL hP hD hS hl K
      obtain ⟨hx, hb, hml, hr, hown, hts, hlk, hK, hN, hZ, hA, hnm, hfr, hlo⟩ := hC
      rw [hM] at hb hml hr hown hnm hfr hlo
      dsimp only at hb hml hr hown hnm hfr hlo
      exact lv_ishl hx hb hd K
  · cases ho
theorem ok_ishr (hM : mt i = (y, B, L, r, O, lv)) (hd : decode B pc = .ok (.ishr, 1)) : gOk mt X i pc (oBin (fun a b => a >>> (b &&& 31)) (pc + 1)) := by
  refine ok_pure ?_
  intro S q S' ho hw
  obtain ⟨ls, st, n, k, w⟩ := S
  obtain ⟨hw1, hw2, hw3⟩ := hw
  dsimp only at hw1 hw2 hw3
  simp only [oBin] at ho
  split at ho
  · rename_i b a rr
    cases ho
    refine ⟨rfl, rfl, fun u hu => ?_, ?_⟩
    · rcases List.mem_cons.mp hu with rfl | h
      · exact gok_int
      · exact hw2 u (List.mem_cons_of_mem _ (List.mem_cons_of_mem _ (h)))
    · intro p l e R s m args below meth c D ca sv A Qf cells slots ad H locs la hC hc hs hL hP hD hS hl K
      obtain ⟨hx, hb, hml, hr, hown, hts, hlk, hK, hN, hZ, hA, hnm, hfr, hlo⟩ := hC
      rw [hM] at hb hml hr hown hnm hfr hlo
      dsimp only at hb hml hr hown hnm hfr hlo
      exact lv_ishr hx hb hd K
  · cases ho
theorem ok_iushr (hM : mt i = (y, B, L, r, O, lv)) (hd : decode B pc = .ok (.iushr, 1)) : gOk mt X i pc (oBin (fun a b => (a.toUInt32 >>> (b.toUInt32 &&& Int32.toUInt32 31)).toInt32) (pc + 1)) := by
  refine ok_pure ?_
  intro S q S' ho hw
  obtain ⟨ls, st, n, k, w⟩ := S
  obtain ⟨hw1, hw2, hw3⟩ := hw
  dsimp only at hw1 hw2 hw3
  simp only [oBin] at ho
  split at ho
  · rename_i b a rr
    cases ho
    refine ⟨rfl, rfl, fun u hu => ?_, ?_⟩
    · rcases List.mem_cons.mp hu with rfl | h
      · exact gok_int
      · exact hw2 u (List.mem_cons_of_mem _ (List.mem_cons_of_mem _ (h)))
    · intro p l e R s m args below meth c D ca sv A Qf cells slots ad H locs la hC hc hs hL hP hD hS hl K
      obtain ⟨hx, hb, hml, hr, hown, hts, hlk, hK, hN, hZ, hA, hnm, hfr, hlo⟩ := hC
      rw [hM] at hb hml hr hown hnm hfr hlo
      dsimp only at hb hml hr hown hnm hfr hlo
      exact lv_iushr hx hb hd rfl K
  · cases ho
theorem ok_i2c (hM : mt i = (y, B, L, r, O, lv)) (hd : decode B pc = .ok (.i2c, 1)) : gOk mt X i pc (oUn (fun a => (a.toUInt32 % 65536).toInt32) (pc + 1)) := by
  refine ok_pure ?_
  intro S q S' ho hw
  obtain ⟨ls, st, n, k, w⟩ := S
  obtain ⟨hw1, hw2, hw3⟩ := hw
  dsimp only at hw1 hw2 hw3
  simp only [oUn] at ho
  split at ho
  · rename_i a rr
    cases ho
    refine ⟨rfl, rfl, fun u hu => ?_, ?_⟩
    · rcases List.mem_cons.mp hu with rfl | h
      · exact gok_int
      · exact hw2 u (List.mem_cons_of_mem _ (h))
    · intro p l e R s m args below meth c D ca sv A Qf cells slots ad H locs la hC hc hs hL hP hD hS hl K
      obtain ⟨hx, hb, hml, hr, hown, hts, hlk, hK, hN, hZ, hA, hnm, hfr, hlo⟩ := hC
      rw [hM] at hb hml hr hown hnm hfr hlo
      dsimp only at hb hml hr hown hnm hfr hlo
      exact lv_i2c hx hb hd rfl K
  · cases ho
theorem ok_idiv (hM : mt i = (y, B, L, r, O, lv)) (hd : decode B pc = .ok (.idiv, 1)) : gOk mt X i pc (oDiv (fun a b => a / b) (pc + 1)) := by
  refine ok_pure ?_
  intro S q S' ho hw
  obtain ⟨ls, st, n, k, w⟩ := S
  obtain ⟨hw1, hw2, hw3⟩ := hw
  dsimp only at hw1 hw2 hw3
  simp only [oDiv] at ho
  split at ho
  · rename_i b a rr
    split at ho
    
    · cases ho
    · rename_i hc0
      cases ho
      refine ⟨rfl, rfl, fun u hu => ?_, ?_⟩
      · rcases List.mem_cons.mp hu with rfl | h
        · exact gok_int
        · exact hw2 u (List.mem_cons_of_mem _ (List.mem_cons_of_mem _ (h)))
      · intro p l e R s m args below meth c D ca sv A Qf cells slots ad H locs la hC hc hs hL hP hD hS hl K
        obtain ⟨hx, hb, hml, hr, hown, hts, hlk, hK, hN, hZ, hA, hnm, hfr, hlo⟩ := hC
        rw [hM] at hb hml hr hown hnm hfr hlo
        dsimp only at hb hml hr hown hnm hfr hlo
        exact lv_idiv hx hb hd hc0 K
  · cases ho
theorem ok_irem (hM : mt i = (y, B, L, r, O, lv)) (hd : decode B pc = .ok (.irem, 1)) : gOk mt X i pc (oDiv (fun a b => a - a / b * b) (pc + 1)) := by
  refine ok_pure ?_
  intro S q S' ho hw
  obtain ⟨ls, st, n, k, w⟩ := S
  obtain ⟨hw1, hw2, hw3⟩ := hw
  dsimp only at hw1 hw2 hw3
  simp only [oDiv] at ho
  split at ho
  · rename_i b a rr
    split at ho
    
    · cases ho
    · rename_i hc0
      cases ho
      refine ⟨rfl, rfl, fun u hu => ?_, ?_⟩
      · rcases List.mem_cons.mp hu with rfl | h
        · exact gok_int
        · exact hw2 u (List.mem_cons_of_mem _ (List.mem_cons_of_mem _ (h)))
      · intro p l e R s m args below meth c D ca sv A Qf cells slots ad H locs la hC hc hs hL hP hD hS hl K
        obtain ⟨hx, hb, hml, hr, hown, hts, hlk, hK, hN, hZ, hA, hnm, hfr, hlo⟩ := hC
        rw [hM] at hb hml hr hown hnm hfr hlo
        dsimp only at hb hml hr hown hnm hfr hlo
        exact lv_irem hx hb hd hc0 K
  · cases ho
theorem ok_ladd (hM : mt i = (y, B, L, r, O, lv)) (hd : decode B pc = .ok (.ladd, 1)) : gOk mt X i pc (oBinL (fun a b => a + b) (pc + 1)) := by
  refine ok_pure ?_
  intro S q S' ho hw
  obtain ⟨ls, st, n, k, w⟩ := S
  obtain ⟨hw1, hw2, hw3⟩ := hw
  dsimp only at hw1 hw2 hw3
  simp only [oBinL] at ho
  split at ho
  · rename_i b a rr
    cases ho
    refine ⟨rfl, rfl, fun u hu => ?_, ?_⟩
    · rcases List.mem_cons.mp hu with rfl | h
      · exact gok_long
      · exact hw2 u (List.mem_cons_of_mem _ (List.mem_cons_of_mem _ (h)))
    · intro p l e R s m args below meth c D ca sv A Qf cells slots ad H locs la hC hc hs hL hP hD hS hl K
      obtain ⟨hx, hb, hml, hr, hown, hts, hlk, hK, hN, hZ, hA, hnm, hfr, hlo⟩ := hC
      rw [hM] at hb hml hr hown hnm hfr hlo
      dsimp only at hb hml hr hown hnm hfr hlo
      exact lv_ladd hx hb hd K
  · cases ho
theorem ok_lsub (hM : mt i = (y, B, L, r, O, lv)) (hd : decode B pc = .ok (.lsub, 1)) : gOk mt X i pc (oBinL (fun a b => a - b) (pc + 1)) := by
  refine ok_pure ?_
  intro S q S' ho hw
  obtain ⟨ls, st, n, k, w⟩ := S
  obtain ⟨hw1, hw2, hw3⟩ := hw
  dsimp only at hw1 hw2 hw3
  simp only [oBinL] at ho
  split at ho
  · rename_i b a rr
    cases ho
    refine ⟨rfl, rfl, fun u hu => ?_, ?_⟩
    · rcases List.mem_cons.mp hu with rfl | h
      · exact gok_long
      · exact hw2 u (List.mem_cons_of_mem _ (List.mem_cons_of_mem _ (h)))
    · intro p l e R s m args below meth c D ca sv A Qf cells slots ad H locs la hC hc hs hL hP hD hS hl K
      obtain ⟨hx, hb, hml, hr, hown, hts, hlk, hK, hN, hZ, hA, hnm, hfr, hlo⟩ := hC
      rw [hM] at hb hml hr hown hnm hfr hlo
      dsimp only at hb hml hr hown hnm hfr hlo
      exact lv_lsub hx hb hd K
  · cases ho
theorem ok_lmul (hM : mt i = (y, B, L, r, O, lv)) (hd : decode B pc = .ok (.lmul, 1)) : gOk mt X i pc (oBinL (fun a b => a * b) (pc + 1)) := by
  refine ok_pure ?_
  intro S q S' ho hw
  obtain ⟨ls, st, n, k, w⟩ := S
  obtain ⟨hw1, hw2, hw3⟩ := hw
  dsimp only at hw1 hw2 hw3
  simp only [oBinL] at ho
  split at ho
  · rename_i b a rr
    cases ho
    refine ⟨rfl, rfl, fun u hu => ?_, ?_⟩
    · rcases List.mem_cons.mp hu with rfl | h
      · exact gok_long
      · exact hw2 u (List.mem_cons_of_mem _ (List.mem_cons_of_mem _ (h)))
    · intro p l e R s m args below meth c D ca sv A Qf cells slots ad H locs la hC hc hs hL hP hD hS hl K
      obtain ⟨hx, hb, hml, hr, hown, hts, hlk, hK, hN, hZ, hA, hnm, hfr, hlo⟩ := hC
      rw [hM] at hb hml hr hown hnm hfr hlo
      dsimp only at hb hml hr hown hnm hfr hlo
      exact lv_lmul hx hb hd K
  · cases ho
theorem ok_lcmp (hM : mt i = (y, B, L, r, O, lv)) (hd : decode B pc = .ok (.lcmp, 1)) : gOk mt X i pc (oLcmp (pc + 1)) := by
  refine ok_pure ?_
  intro S q S' ho hw
  obtain ⟨ls, st, n, k, w⟩ := S
  obtain ⟨hw1, hw2, hw3⟩ := hw
  dsimp only at hw1 hw2 hw3
  simp only [oLcmp] at ho
  split at ho
  · rename_i b a rr
    cases ho
    refine ⟨rfl, rfl, fun u hu => ?_, ?_⟩
    · rcases List.mem_cons.mp hu with rfl | h
      · exact gok_int
      · exact hw2 u (List.mem_cons_of_mem _ (List.mem_cons_of_mem _ (h)))
    · intro p l e R s m args below meth c D ca sv A Qf cells slots ad H locs la hC hc hs hL hP hD hS hl K
      obtain ⟨hx, hb, hml, hr, hown, hts, hlk, hK, hN, hZ, hA, hnm, hfr, hlo⟩ := hC
      rw [hM] at hb hml hr hown hnm hfr hlo
      dsimp only at hb hml hr hown hnm hfr hlo
      exact W.lcmp hx hb hd K
  · cases ho
theorem ok_i2l (hM : mt i = (y, B, L, r, O, lv)) (hd : decode B pc = .ok (.i2l, 1)) : gOk mt X i pc (oI2L (pc + 1)) := by
  refine ok_pure ?_
  intro S q S' ho hw
  obtain ⟨ls, st, n, k, w⟩ := S
  obtain ⟨hw1, hw2, hw3⟩ := hw
  dsimp only at hw1 hw2 hw3
  simp only [oI2L] at ho
  split at ho
  · rename_i a rr
    cases ho
    refine ⟨rfl, rfl, fun u hu => ?_, ?_⟩
    · rcases List.mem_cons.mp hu with rfl | h
      · exact gok_long
      · exact hw2 u (List.mem_cons_of_mem _ (h))
    · intro p l e R s m args below meth c D ca sv A Qf cells slots ad H locs la hC hc hs hL hP hD hS hl K
      obtain ⟨hx, hb, hml, hr, hown, hts, hlk, hK, hN, hZ, hA, hnm, hfr, hlo⟩ := hC
      rw [hM] at hb hml hr hown hnm hfr hlo
      dsimp only at hb hml hr hown hnm hfr hlo
      exact lv_i2l hx hb hd rfl K
  · cases ho
theorem ok_if_eq (hM : mt i = (y, B, L, r, O, lv)) {t : Nat} {off : Int} (hd : decode B pc = .ok (.ifCond .eq off, 3)) (ht : (pc : Int) + off = (t : Int)) : gOk mt X i pc (oIf1 (fun x => decide (x = 0)) t (pc + 3)) := by
  refine ok_pure ?_
  intro S q S' ho hw
  obtain ⟨ls, st, n, k, w⟩ := S
  obtain ⟨hw1, hw2, hw3⟩ := hw
  dsimp only at hw1 hw2 hw3
  simp only [oIf1] at ho
  split at ho
  · rename_i x rr
    cases ho
    refine ⟨rfl, rfl, fun u hu => ?_, ?_⟩
    · exact hw2 u (List.mem_cons_of_mem _ (hu))
    · intro p l e R s m args below meth c D ca sv A Qf cells slots ad H locs la hC hc hs hL hP hD hS hl K
      obtain ⟨hx, hb, hml, hr, hown, hts, hlk, hK, hN, hZ, hA, hnm, hfr, hlo⟩ := hC
      rw [hM] at hb hml hr hown hnm hfr hlo
      dsimp only at hb hml hr hown hnm hfr hlo
      refine lv_if_eq hx hb hd ht (fun hc => ?_) (fun hc => ?_)
      · rw [if_pos (decide_eq_true hc)] at K
        exact K
      · rw [if_neg (fun z => hc (of_decide_eq_true z))] at K
        exact K
  · cases ho
theorem ok_icmp_eq (hM : mt i = (y, B, L, r, O, lv)) {t : Nat} {off : Int} (hd : decode B pc = .ok (.if_icmp .eq off, 3)) (ht : (pc : Int) + off = (t : Int)) : gOk mt X i pc (oIf2 (fun x y => decide (x = y)) t (pc + 3)) := by
  refine ok_pure ?_
  intro S q S' ho hw
  obtain ⟨ls, st, n, k, w⟩ := S
  obtain ⟨hw1, hw2, hw3⟩ := hw
  dsimp only at hw1 hw2 hw3
  simp only [oIf2] at ho
  split at ho
  · rename_i b a rr
    cases ho
    refine ⟨rfl, rfl, fun u hu => ?_, ?_⟩
    · exact hw2 u (List.mem_cons_of_mem _ (List.mem_cons_of_mem _ (hu)))
    · intro p l e R s m args below meth c D ca sv A Qf cells slots ad H locs la hC hc hs hL hP hD hS hl K
      obtain ⟨hx, hb, hml, hr, hown, hts, hlk, hK, hN, hZ, hA, hnm, hfr, hlo⟩ := hC
      rw [hM] at hb hml hr hown hnm hfr hlo
      dsimp only at hb hml hr hown hnm hfr hlo
      refine lv_icmp_eq hx hb hd ht (fun hc => ?_) (fun hc => ?_)
      · rw [if_pos (decide_eq_true hc)] at K
        exact K
      · rw [if_neg (fun z => hc (of_decide_eq_true z))] at K
        exact K
  · cases ho
theorem ok_if_ne (hM : mt i = (y, B, L, r, O, lv)) {t : Nat} {off : Int} (hd : decode B pc = .ok (.ifCond .ne off, 3)) (ht : (pc : Int) + off = (t : Int)) : gOk mt X i pc (oIf1 (fun x => decide (¬ x = 0)) t (pc + 3)) := by
  refine ok_pure ?_
  intro S q S' ho hw
  obtain ⟨ls, st, n, k, w⟩ := S
  obtain ⟨hw1, hw2, hw3⟩ := hw
  dsimp only at hw1 hw2 hw3
  simp only [oIf1] at ho
  split at ho
  · rename_i x rr
    cases ho
    refine ⟨rfl, rfl, fun u hu => ?_, ?_⟩
    · exact hw2 u (List.mem_cons_of_mem _ (hu))
    · intro p l e R s m args below meth c D ca sv A Qf cells slots ad H locs la hC hc hs hL hP hD hS hl K
      obtain ⟨hx, hb, hml, hr, hown, hts, hlk, hK, hN, hZ, hA, hnm, hfr, hlo⟩ := hC
      rw [hM] at hb hml hr hown hnm hfr hlo
      dsimp only at hb hml hr hown hnm hfr hlo
      refine lv_if_ne hx hb hd ht (fun hc => ?_) (fun hc => ?_)
      · rw [if_pos (decide_eq_true hc)] at K
        exact K
      · rw [if_neg (fun z => (of_decide_eq_true z) hc)] at K
        exact K
  · cases ho
theorem ok_icmp_ne (hM : mt i = (y, B, L, r, O, lv)) {t : Nat} {off : Int} (hd : decode B pc = .ok (.if_icmp .ne off, 3)) (ht : (pc : Int) + off = (t : Int)) : gOk mt X i pc (oIf2 (fun x y => decide (¬ x = y)) t (pc + 3)) := by
  refine ok_pure ?_
  intro S q S' ho hw
  obtain ⟨ls, st, n, k, w⟩ := S
  obtain ⟨hw1, hw2, hw3⟩ := hw
  dsimp only at hw1 hw2 hw3
  simp only [oIf2] at ho
  split at ho
  · rename_i b a rr
    cases ho
    refine ⟨rfl, rfl, fun u hu => ?_, ?_⟩
    · exact hw2 u (List.mem_cons_of_mem _ (List.mem_cons_of_mem _ (hu)))
    · intro p l e R s m args below meth c D ca sv A Qf cells slots ad H locs la hC hc hs hL hP hD hS hl K
      obtain ⟨hx, hb, hml, hr, hown, hts, hlk, hK, hN, hZ, hA, hnm, hfr, hlo⟩ := hC
      rw [hM] at hb hml hr hown hnm hfr hlo
      dsimp only at hb hml hr hown hnm hfr hlo
      refine lv_icmp_ne hx hb hd ht (fun hc => ?_) (fun hc => ?_)
      · rw [if_pos (decide_eq_true hc)] at K
        exact K
      · rw [if_neg (fun z => (of_decide_eq_true z) hc)] at K
        exact K
  · cases ho
theorem ok_if_lt (hM : mt i = (y, B, L, r, O, lv)) {t : Nat} {off : Int} (hd : decode B pc = .ok (.ifCond .lt off, 3)) (ht : (pc : Int) + off = (t : Int)) : gOk mt X i pc (oIf1 (fun x => decide (x < 0)) t (pc + 3)) := by
  refine ok_pure ?_
  intro S q S' ho hw
  obtain ⟨ls, st, n, k, w⟩ := S
  obtain ⟨hw1, hw2, hw3⟩ := hw
  dsimp only at hw1 hw2 hw3
  simp only [oIf1] at ho
  split at ho
  · rename_i x rr
    cases ho
    refine ⟨rfl, rfl, fun u hu => ?_, ?_⟩
    · exact hw2 u (List.mem_cons_of_mem _ (hu))
    · intro p l e R s m args below meth c D ca sv A Qf cells slots ad H locs la hC hc hs hL hP hD hS hl K
      obtain ⟨hx, hb, hml, hr, hown, hts, hlk, hK, hN, hZ, hA, hnm, hfr, hlo⟩ := hC
      rw [hM] at hb hml hr hown hnm hfr hlo
      dsimp only at hb hml hr hown hnm hfr hlo
      refine lv_if_lt hx hb hd ht (fun hc => ?_) (fun hc => ?_)
      · rw [if_pos (decide_eq_true hc)] at K
        exact K
      · rw [if_neg (fun z => hc (of_decide_eq_true z))] at K
        exact K
  · cases ho
theorem ok_icmp_lt (hM : mt i = (y, B, L, r, O, lv)) {t : Nat} {off : Int} (hd : decode B pc = .ok (.if_icmp .lt off, 3)) (ht : (pc : Int) + off = (t : Int)) : gOk mt X i pc (oIf2 (fun x y => decide (x < y)) t (pc + 3)) := by
  refine ok_pure ?_
  intro S q S' ho hw
  obtain ⟨ls, st, n, k, w⟩ := S
  obtain ⟨hw1, hw2, hw3⟩ := hw
  dsimp only at hw1 hw2 hw3
  simp only [oIf2] at ho
  split at ho
  · rename_i b a rr
    cases ho
    refine ⟨rfl, rfl, fun u hu => ?_, ?_⟩
    · exact hw2 u (List.mem_cons_of_mem _ (List.mem_cons_of_mem _ (hu)))
    · intro p l e R s m args below meth c D ca sv A Qf cells slots ad H locs la hC hc hs hL hP hD hS hl K
      obtain ⟨hx, hb, hml, hr, hown, hts, hlk, hK, hN, hZ, hA, hnm, hfr, hlo⟩ := hC
      rw [hM] at hb hml hr hown hnm hfr hlo
      dsimp only at hb hml hr hown hnm hfr hlo
      refine lv_icmp_lt hx hb hd ht (fun hc => ?_) (fun hc => ?_)
      · rw [if_pos (decide_eq_true hc)] at K
        exact K
      · rw [if_neg (fun z => hc (of_decide_eq_true z))] at K
        exact K
  · cases ho
theorem ok_if_ge (hM : mt i = (y, B, L, r, O, lv)) {t : Nat} {off : Int} (hd : decode B pc = .ok (.ifCond .ge off, 3)) (ht : (pc : Int) + off = (t : Int)) : gOk mt X i pc (oIf1 (fun x => decide (0 ≤ x)) t (pc + 3)) := by
  refine ok_pure ?_
  intro S q S' ho hw
  obtain ⟨ls, st, n, k, w⟩ := S
  obtain ⟨hw1, hw2, hw3⟩ := hw
  dsimp only at hw1 hw2 hw3
  simp only [oIf1] at ho
  split at ho
  · rename_i x rr
    cases ho
    refine ⟨rfl, rfl, fun u hu => ?_, ?_⟩
    · exact hw2 u (List.mem_cons_of_mem _ (hu))
    · intro p l e R s m args below meth c D ca sv A Qf cells slots ad H locs la hC hc hs hL hP hD hS hl K
      obtain ⟨hx, hb, hml, hr, hown, hts, hlk, hK, hN, hZ, hA, hnm, hfr, hlo⟩ := hC
      rw [hM] at hb hml hr hown hnm hfr hlo
      dsimp only at hb hml hr hown hnm hfr hlo
      refine lv_if_ge hx hb hd ht (fun hc => ?_) (fun hc => ?_)
      · rw [if_pos (decide_eq_true hc)] at K
        exact K
      · rw [if_neg (fun z => hc (of_decide_eq_true z))] at K
        exact K
  · cases ho
theorem ok_icmp_ge (hM : mt i = (y, B, L, r, O, lv)) {t : Nat} {off : Int} (hd : decode B pc = .ok (.if_icmp .ge off, 3)) (ht : (pc : Int) + off = (t : Int)) : gOk mt X i pc (oIf2 (fun x y => decide (y ≤ x)) t (pc + 3)) := by
  refine ok_pure ?_
  intro S q S' ho hw
  obtain ⟨ls, st, n, k, w⟩ := S
  obtain ⟨hw1, hw2, hw3⟩ := hw
  dsimp only at hw1 hw2 hw3
  simp only [oIf2] at ho
  split at ho
  · rename_i b a rr
    cases ho
    refine ⟨rfl, rfl, fun u hu => ?_, ?_⟩
    · exact hw2 u (List.mem_cons_of_mem _ (List.mem_cons_of_mem _ (hu)))
    · intro p l e R s m args below meth c D ca sv A Qf cells slots ad H locs la hC hc hs hL hP hD hS hl K
      obtain ⟨hx, hb, hml, hr, hown, hts, hlk, hK, hN, hZ, hA, hnm, hfr, hlo⟩ := hC
      rw [hM] at hb hml hr hown hnm hfr hlo
      dsimp only at hb hml hr hown hnm hfr hlo
      refine lv_icmp_ge hx hb hd ht (fun hc => ?_) (fun hc => ?_)
      · rw [if_pos (decide_eq_true hc)] at K
        exact K
      · rw [if_neg (fun z => hc (of_decide_eq_true z))] at K
        exact K
  · cases ho
theorem ok_if_gt (hM : mt i = (y, B, L, r, O, lv)) {t : Nat} {off : Int} (hd : decode B pc = .ok (.ifCond .gt off, 3)) (ht : (pc : Int) + off = (t : Int)) : gOk mt X i pc (oIf1 (fun x => decide (0 < x)) t (pc + 3)) := by
  refine ok_pure ?_
  intro S q S' ho hw
  obtain ⟨ls, st, n, k, w⟩ := S
  obtain ⟨hw1, hw2, hw3⟩ := hw
  dsimp only at hw1 hw2 hw3
  simp only [oIf1] at ho
  split at ho
  · rename_i x rr
    cases ho
    refine ⟨rfl, rfl, fun u hu => ?_, ?_⟩
    · exact hw2 u (List.mem_cons_of_mem _ (hu))
    · intro p l e R s m args below meth c D ca sv A Qf cells slots ad H locs la hC hc hs hL hP hD hS hl K
      obtain ⟨hx, hb, hml, hr, hown, hts, hlk, hK, hN, hZ, hA, hnm, hfr, hlo⟩ := hC
      rw [hM] at hb hml hr hown hnm hfr hlo
      dsimp only at hb hml hr hown hnm hfr hlo
      refine lv_if_gt hx hb hd ht (fun hc => ?_) (fun hc => ?_)
      · rw [if_pos (decide_eq_true hc)] at K
        exact K
      · rw [if_neg (fun z => hc (of_decide_eq_true z))] at K
        exact K
  · cases ho
theorem ok_icmp_gt (hM : mt i = (y, B, L, r, O, lv)) {t : Nat} {off : Int} (hd : decode B pc = .ok (.if_icmp .gt off, 3)) (ht : (pc : Int) + off = (t : Int)) : gOk mt X i pc (oIf2 (fun x y => decide (y < x)) t (pc + 3)) := by
  refine ok_pure ?_
  intro S q S' ho hw
  obtain ⟨ls, st, n, k, w⟩ := S
  obtain ⟨hw1, hw2, hw3⟩ := hw
  dsimp only at hw1 hw2 hw3
  simp only [oIf2] at ho
  split at ho
  · rename_i b a rr
    cases ho
    refine ⟨rfl, rfl, fun u hu => ?_, ?_⟩
    · exact hw2 u (List.mem_cons_of_mem _ (List.mem_cons_of_mem _ (hu)))
    · intro p l e R s m args below meth c D ca sv A Qf cells slots ad H locs la hC hc hs hL hP hD hS hl K
      obtain ⟨hx, hb, hml, hr, hown, hts, hlk, hK, hN, hZ, hA, hnm, hfr, hlo⟩ := hC
      rw [hM] at hb hml hr hown hnm hfr hlo
      dsimp only at hb hml hr hown hnm hfr hlo
      refine lv_icmp_gt hx hb hd ht (fun hc => ?_) (fun hc => ?_)
      · rw [if_pos (decide_eq_true hc)] at K
        exact K
      · rw [if_neg (fun z => hc (of_decide_eq_true z))] at K
        exact K
  · cases ho
theorem ok_if_le (hM : mt i = (y, B, L, r, O, lv)) {t : Nat} {off : Int} (hd : decode B pc = .ok (.ifCond .le off, 3)) (ht : (pc : Int) + off = (t : Int)) : gOk mt X i pc (oIf1 (fun x => decide (x ≤ 0)) t (pc + 3)) := by
  refine ok_pure ?_
  intro S q S' ho hw
  obtain ⟨ls, st, n, k, w⟩ := S
  obtain ⟨hw1, hw2, hw3⟩ := hw
  dsimp only at hw1 hw2 hw3
  simp only [oIf1] at ho
  split at ho
  · rename_i x rr
    cases ho
    refine ⟨rfl, rfl, fun u hu => ?_, ?_⟩
    · exact hw2 u (List.mem_cons_of_mem _ (hu))
    · intro p l e R s m args below meth c D ca sv A Qf cells slots ad H locs la hC hc hs hL hP hD hS hl K
      obtain ⟨hx, hb, hml, hr, hown, hts, hlk, hK, hN, hZ, hA, hnm, hfr, hlo⟩ := hC
      rw [hM] at hb hml hr hown hnm hfr hlo
      dsimp only at hb hml hr hown hnm hfr hlo
      refine lv_if_le hx hb hd ht (fun hc => ?_) (fun hc => ?_)
      · rw [if_pos (decide_eq_true hc)] at K
        exact K
      · rw [if_neg (fun z => hc (of_decide_eq_true z))] at K
        exact K
  · cases ho
theorem ok_icmp_le (hM : mt i = (y, B, L, r, O, lv)) {t : Nat} {off : Int} (hd : decode B pc = .ok (.if_icmp .le off, 3)) (ht : (pc : Int) + off = (t : Int)) : gOk mt X i pc (oIf2 (fun x y => decide (x ≤ y)) t (pc + 3)) := by
  refine ok_pure ?_
  intro S q S' ho hw
  obtain ⟨ls, st, n, k, w⟩ := S
  obtain ⟨hw1, hw2, hw3⟩ := hw
  dsimp only at hw1 hw2 hw3
  simp only [oIf2] at ho
  split at ho
  · rename_i b a rr
    cases ho
    refine ⟨rfl, rfl, fun u hu => ?_, ?_⟩
    · exact hw2 u (List.mem_cons_of_mem _ (List.mem_cons_of_mem _ (hu)))
    · intro p l e R s m args below meth c D ca sv A Qf cells slots ad H locs la hC hc hs hL hP hD hS hl K
      obtain ⟨hx, hb, hml, hr, hown, hts, hlk, hK, hN, hZ, hA, hnm, hfr, hlo⟩ := hC
      rw [hM] at hb hml hr hown hnm hfr hlo
      dsimp only at hb hml hr hown hnm hfr hlo
      refine lv_icmp_le hx hb hd ht (fun hc => ?_) (fun hc => ?_)
      · rw [if_pos (decide_eq_true hc)] at K
        exact K
      · rw [if_neg (fun z => hc (of_decide_eq_true z))] at K
        exact K
  · cases ho
theorem ok_dup (hM : mt i = (y, B, L, r, O, lv)) (hd : decode B pc = .ok (.dup, 1)) : gOk mt X i pc (oDup (pc + 1)) := by
  refine ok_pure ?_
  intro S q S' ho hw
  obtain ⟨ls, st, n, k, w⟩ := S
  obtain ⟨hw1, hw2, hw3⟩ := hw
  dsimp only at hw1 hw2 hw3
  simp only [oDup] at ho
  split at ho
  · rename_i v rr
    split at ho
    
    · rename_i hc0
      cases ho
      refine ⟨rfl, rfl, fun u hu => ?_, ?_⟩
      · rcases List.mem_cons.mp hu with rfl | h
        · exact hw2 _ List.mem_cons_self
        · exact hw2 u h
      · intro p l e R s m args below meth c D ca sv A Qf cells slots ad H locs la hC hc hs hL hP hD hS hl K
        obtain ⟨hx, hb, hml, hr, hown, hts, hlk, hK, hN, hZ, hA, hnm, hfr, hlo⟩ := hC
        rw [hM] at hb hml hr hown hnm hfr hlo
        dsimp only at hb hml hr hown hnm hfr hlo
        exact lv_dup hx hb hd (by rw [gv_cat hZ.2.2.2.2.1]; exact hc0) K
    · cases ho
  · cases ho
theorem ok_dup2 (hM : mt i = (y, B, L, r, O, lv)) (hd : decode B pc = .ok (.dup2, 1)) : gOk mt X i pc (oDup2 (pc + 1)) := by
  refine ok_pure ?_
  intro S q S' ho hw
  obtain ⟨ls, st, n, k, w⟩ := S
  obtain ⟨hw1, hw2, hw3⟩ := hw
  dsimp only at hw1 hw2 hw3
  simp only [oDup2] at ho
  split at ho
  · rename_i v v2 rr
    split at ho
    
    · rename_i hc0
      cases ho
      refine ⟨rfl, rfl, fun u hu => ?_, ?_⟩
      · rcases List.mem_cons.mp hu with rfl | h
        · exact hw2 _ List.mem_cons_self
        · rcases List.mem_cons.mp h with rfl | h
          · exact hw2 _ (List.mem_cons_of_mem _ List.mem_cons_self)
          · exact hw2 u h
      · intro p l e R s m args below meth c D ca sv A Qf cells slots ad H locs la hC hc hs hL hP hD hS hl K
        obtain ⟨hx, hb, hml, hr, hown, hts, hlk, hK, hN, hZ, hA, hnm, hfr, hlo⟩ := hC
        rw [hM] at hb hml hr hown hnm hfr hlo
        dsimp only at hb hml hr hown hnm hfr hlo
        exact lv_dup2_11 hx hb hd (by rw [gv_cat hZ.2.2.2.2.1]; exact hc0.1) (by rw [gv_cat hZ.2.2.2.2.1]; exact hc0.2) K
    · cases ho
  · cases ho
theorem ok_goto (hM : mt i = (y, B, L, r, O, lv)) {t : Nat} {off : Int} (hd : decode B pc = .ok (.goto off, 3)) (ht : (pc : Int) + off = (t : Int)) : gOk mt X i pc (oGo t) := by
  refine ok_pure ?_
  intro S q S' ho hw
  cases ho
  refine ⟨rfl, rfl, hw.2.1, ?_⟩
  intro p l e R s m args below meth c D ca sv A Qf cells slots ad H locs la hC hc hs hL hP hD hS hl K
  obtain ⟨hx, hb, hml, hr, hown, hts, hlk, hK, hN, hZ, hA, hnm, hfr, hlo⟩ := hC
  rw [hM] at hb hml hr hown hnm hfr hlo
  dsimp only at hb hml hr hown hnm hfr hlo
  exact lv_goto hx hb hd ht K
theorem ok_ifnonnull (hM : mt i = (y, B, L, r, O, lv)) {t : Nat} {off : Int} (hd : decode B pc = .ok (.ifnonnull off, 3)) (ht : (pc : Int) + off = (t : Int)) : gOk mt X i pc (oIfN t (pc + 3)) := by
  refine ok_pure ?_
  intro S q S' ho hw
  obtain ⟨ls, st, n, k, w⟩ := S
  obtain ⟨hw1, hw2, hw3⟩ := hw
  dsimp only at hw1 hw2 hw3
  simp only [oIfN] at ho
  split at ho
  · rename_i a rr
    cases ho
    refine ⟨rfl, rfl, fun u hu => hw2 u (List.mem_cons_of_mem _ hu), ?_⟩
    intro p l e R s m args below meth c D ca sv A Qf cells slots ad H locs la hC hc hs hL hP hD hS hl K
    obtain ⟨hx, hb, hml, hr, hown, hts, hlk, hK, hN, hZ, hA, hnm, hfr, hlo⟩ := hC
    rw [hM] at hb hml hr hown hnm hfr hlo
    dsimp only at hb hml hr hown hnm hfr hlo
    exact lv_ifnonnull hx hb hd ht K
  · rename_i rr
    cases ho
    refine ⟨rfl, rfl, fun u hu => hw2 u (List.mem_cons_of_mem _ hu), ?_⟩
    intro p l e R s m args below meth c D ca sv A Qf cells slots ad H locs la hC hc hs hL hP hD hS hl K
    obtain ⟨hx, hb, hml, hr, hown, hts, hlk, hK, hN, hZ, hA, hnm, hfr, hlo⟩ := hC
    rw [hM] at hb hml hr hown hnm hfr hlo
    dsimp only at hb hml hr hown hnm hfr hlo
    exact lv_ifnonnullN hx hb hd K
  · cases ho
theorem gobj_fld {c j : Nat} {e : gE} {v : Value} (h : gfld c j e = some v) : ∃ fs, e = .inr (c, fs) ∧ fs[j]? = some v := by
  unfold gfld at h
  split at h
  · rename_i ci fs
    split at h
    · rename_i hc
      subst hc
      exact ⟨fs, rfl, h⟩
    · cases h
  · cases h
theorem gobj_eq {c : Nat} {e : gE} {fs : List Value} (h : gobj c e = some fs) : e = .inr (c, fs) := by
  unfold gobj at h
  split at h
  · split at h
    · rename_i hc
      subst hc
      cases h
      rfl
    · cases h
  · cases h
theorem garr_eq {ty : FieldType} {e : gE} {m : Nat} {f : Nat → Int32} (h : garr ty e = some (m, f)) : e = .inl (ty, m, .inl f) := by
  unfold garr at h
  split at h
  · split at h
    · rename_i hc
      subst hc
      cases h
      rfl
    · cases h
  · cases h
theorem garq_eq {ty : FieldType} {e : gE} {m : Nat} {f : Nat → Option Nat} (h : garq ty e = some (m, f)) : e = .inl (ty, m, .inr (.inr (.inr (.inr f)))) := by
  unfold garq at h
  split at h
  · split at h
    · rename_i hc
      subst hc
      cases h
      rfl
    · cases h
  · cases h
theorem glen_eq {ty : FieldType} {e : gE} {m : Nat} (h : glen ty e = some m) : ∃ z, e = .inl (ty, m, z) := by
  unfold glen at h
  split at h
  · rename_i t m' z
    split at h
    · rename_i hc
      subst hc
      cases h
      exact ⟨z, rfl⟩
    · cases h
  · cases h
theorem gc_arr {ca : FieldType → ClassId} {sv : Nat → Value} {ad : Nat → Nat} {ty : FieldType} {m : Nat} (z : (Nat → Int32) ⊕ (Nat → Int64) ⊕ (Nat → UInt32) ⊕ (Nat → UInt64) ⊕ (Nat → Option Nat)) : ∃ z', gc ca sv ad (.inl (ty, m, z)) = .inl (ca ty, m, z') := by
  rcases z with z | z | z | z | z <;> exact ⟨_, rfl⟩
theorem ok_get (hM : mt i = (y, B, L, r, O, lv)) {ci j index N : Nat} {C : String} {T : u_T} (hd : decode B pc = .ok (.getfield index, 3)) (hc : vwCl[ci]? = some (C, T, N)) (hin : ∀ w ∈ u_ws C T N, w ∈ gWs) (hj : j < N) (hw0 : Cond.fieldLink O index (T j).1 (T j).2.1 (T j).2.2.1 ∈ gWs) : gOk mt X i pc (oGet ci j (pc + 3)) := by
  refine ok_pure ?_
  intro S q S' ho hw
  obtain ⟨ls, st, n, k, w⟩ := S
  obtain ⟨hw1, hw2, hw3⟩ := hw
  dsimp only at hw1 hw2 hw3
  simp only [oGet] at ho
  split at ho
  · rename_i a rr
    split at ho
    · rename_i v hg
      cases ho
      obtain ⟨fs, e1, e2⟩ := gobj_fld hg
      have ha : a < n := gok_ref.mp (hw2 _ List.mem_cons_self)
      refine ⟨rfl, rfl, fun u hu => ?_, ?_⟩
      · rcases List.mem_cons.mp hu with rfl | h
        · have h0 := hw3 a ha
          rw [e1] at h0
          exact h0 _ (List.mem_of_getElem? e2)
        · exact hw2 u (List.mem_cons_of_mem _ h)
      · intro p l e R s m args below meth c D ca sv A Qf cells slots ad H locs la hC hc1 hs hL hP hD hS hl K
        obtain ⟨hx, hb, hml, hr, hown, hts, hlk, hK, hN, hZ, hA, hnm, hfr, hlo⟩ := hC
        rw [hM] at hb hml hr hown hnm hfr hlo
        dsimp only at hb hml hr hown hnm hfr hlo
        exact va_get hx hb hts hin hown hK hP a (fs := fs.map (gv sv ad)) (by rw [gL_at ha]; dsimp only; rw [e1]; rfl) hc j hj (hts _ hw0) (fun _ h9 => h9) (v := gv sv ad v) (by rw [List.getElem?_map, e2]; rfl) hd K
    · cases ho
  · cases ho
theorem ok_iald (hM : mt i = (y, B, L, r, O, lv)) (hd : decode B pc = .ok (.iaload, 1)) : gOk mt X i pc (oIald .int (pc + 1)) := by
  refine ok_pure ?_
  intro S q S' ho hw
  obtain ⟨ls, st, n, k, w⟩ := S
  obtain ⟨hw1, hw2, hw3⟩ := hw
  dsimp only at hw1 hw2 hw3
  simp only [oIald] at ho
  split at ho
  · rename_i x a rr
    split at ho
    · rename_i m f hg
      split at ho
      · cases ho
      · rename_i hin
        cases ho
        have e1 := garr_eq hg
        have ha : a < n := gok_ref.mp (hw2 _ (List.mem_cons_of_mem _ List.mem_cons_self))
        refine ⟨rfl, rfl, fun u hu => ?_, ?_⟩
        · rcases List.mem_cons.mp hu with rfl | h
          · exact gok_int
          · exact hw2 u (List.mem_cons_of_mem _ (List.mem_cons_of_mem _ h))
        · intro p l e R s m args below meth c D ca sv A Qf cells slots ad H locs la hC hc hs hL hP hD hS hl K
          obtain ⟨hx, hb, hml, hr, hown, hts, hlk, hK, hN, hZ, hA, hnm, hfr, hlo⟩ := hC
          rw [hM] at hb hml hr hown hnm hfr hlo
          dsimp only at hb hml hr hown hnm hfr hlo
          exact va_iald hx hb hK hP a 0 (by rw [gL_at ha]; dsimp only; rw [e1]; rfl) rfl hin hd K
    · cases ho
  · cases ho
theorem ok_zald (hM : mt i = (y, B, L, r, O, lv)) (hd : decode B pc = .ok (.baload, 1)) : gOk mt X i pc (oIald .boolean (pc + 1)) := by
  refine ok_pure ?_
  intro S q S' ho hw
  obtain ⟨ls, st, n, k, w⟩ := S
  obtain ⟨hw1, hw2, hw3⟩ := hw
  dsimp only at hw1 hw2 hw3
  simp only [oIald] at ho
  split at ho
  · rename_i x a rr
    split at ho
    · rename_i m f hg
      split at ho
      · cases ho
      · rename_i hin
        cases ho
        have e1 := garr_eq hg
        have ha : a < n := gok_ref.mp (hw2 _ (List.mem_cons_of_mem _ List.mem_cons_self))
        refine ⟨rfl, rfl, fun u hu => ?_, ?_⟩
        · rcases List.mem_cons.mp hu with rfl | h
          · exact gok_int
          · exact hw2 u (List.mem_cons_of_mem _ (List.mem_cons_of_mem _ h))
        · intro p l e R s m args below meth c D ca sv A Qf cells slots ad H locs la hC hc hs hL hP hD hS hl K
          obtain ⟨hx, hb, hml, hr, hown, hts, hlk, hK, hN, hZ, hA, hnm, hfr, hlo⟩ := hC
          rw [hM] at hb hml hr hown hnm hfr hlo
          dsimp only at hb hml hr hown hnm hfr hlo
          exact va_zald hx hb hK hP a 1 (by rw [gL_at ha]; dsimp only; rw [e1]; rfl) rfl hin hd K
    · cases ho
  · cases ho
theorem ok_aald (hM : mt i = (y, B, L, r, O, lv)) (hd : decode B pc = .ok (.aaload, 1)) : gOk mt X i pc (oAald (.object "CoinTrack$Track") (pc + 1)) := by
  refine ok_pure ?_
  intro S q S' ho hw
  obtain ⟨ls, st, n, k, w⟩ := S
  obtain ⟨hw1, hw2, hw3⟩ := hw
  dsimp only at hw1 hw2 hw3
  simp only [oAald] at ho
  split at ho
  · rename_i x a rr
    split at ho
    · rename_i m f hg
      split at ho
      · cases ho
      · rename_i hin
        cases ho
        have e1 := garq_eq hg
        have ha : a < n := gok_ref.mp (hw2 _ (List.mem_cons_of_mem _ List.mem_cons_self))
        refine ⟨rfl, rfl, fun u hu => ?_, ?_⟩
        · rcases List.mem_cons.mp hu with rfl | h
          · have h0 := hw3 a ha
            rw [e1] at h0
            intro b hb
            cases hf : f x.toNatClampNeg with
            | none => rw [hf] at hb; cases hb
            | some b' => rw [hf] at hb; cases hb; exact h0 _ _ hf
          · exact hw2 u (List.mem_cons_of_mem _ (List.mem_cons_of_mem _ h))
        · intro p l e R s m args below meth c D ca sv A Qf cells slots ad H locs la hC hc hs hL hP hD hS hl K
          obtain ⟨hx, hb, hml, hr, hown, hts, hlk, hK, hN, hZ, hA, hnm, hfr, hlo⟩ := hC
          rw [hM] at hb hml hr hown hnm hfr hlo
          dsimp only at hb hml hr hown hnm hfr hlo
          have e2 : gv sv ad (va_rf (f x.toNatClampNeg)) = va_rf ((f x.toNatClampNeg).map ad) := by cases f x.toNatClampNeg <;> rfl
          simp only [List.map_cons, e2] at K
          exact va_aldq hx hb hK hP a 2 (f := fun j => (f j).map ad) (by rw [gL_at ha]; dsimp only; rw [e1]; rfl) rfl hin hd K
    · cases ho
  · cases ho
theorem ok_len (hM : mt i = (y, B, L, r, O, lv)) (hd : decode B pc = .ok (.arraylength, 1)) {ty : FieldType} (t0 : Nat) (ht : ∀ ca : FieldType → ClassId, (gTy ca)[t0]? = some (ca ty, ty)) : gOk mt X i pc (oLen ty (pc + 1)) := by
  refine ok_pure ?_
  intro S q S' ho hw
  obtain ⟨ls, st, n, k, w⟩ := S
  obtain ⟨hw1, hw2, hw3⟩ := hw
  dsimp only at hw1 hw2 hw3
  simp only [oLen] at ho
  split at ho
  · rename_i a rr
    split at ho
    · rename_i mm hg
      cases ho
      have ha : a < n := gok_ref.mp (hw2 _ List.mem_cons_self)
      refine ⟨rfl, rfl, fun u hu => ?_, ?_⟩
      · rcases List.mem_cons.mp hu with rfl | h
        · exact gok_int
        · exact hw2 u (List.mem_cons_of_mem _ h)
      · intro p l e R s m args below meth c D ca sv A Qf cells slots ad H locs la hC hc hs hL hP hD hS hl K
        obtain ⟨hx, hb, hml, hr, hown, hts, hlk, hK, hN, hZ, hA, hnm, hfr, hlo⟩ := hC
        rw [hM] at hb hml hr hown hnm hfr hlo
        dsimp only at hb hml hr hown hnm hfr hlo
        obtain ⟨z, e1⟩ := glen_eq hg
        obtain ⟨z', e2⟩ := gc_arr (ca := ca) (sv := sv) (ad := ad) (ty := ty) (m := mm) z
        exact va_alen hx hb hK hP a t0 (x := (mm, z')) (by rw [gL_at ha]; dsimp only; rw [e1, e2]) (ht ca) rfl hd K
    · cases ho
  · cases ho
theorem ok_init (hM : mt i = (y, B, L, r, O, lv)) {index : Nat} (hd : decode B pc = .ok (.invokespecial index, 3)) (hv : 1 ≤ lv) (hw0 : Cond.methodLink O index Lib.objectInit ∈ gWs) (hw4 : Cond.instanceMethod Lib.objectInit ∈ gWs) (hw5 : Cond.code Lib.objectInit ⟨#[0xb1]⟩ 1 none ∈ gWs) : gOk mt X i pc (oInit (pc + 3)) := by
  refine ok_pure ?_
  intro S q S' ho hw
  obtain ⟨ls, st, n, k, w⟩ := S
  obtain ⟨hw1, hw2, hw3⟩ := hw
  dsimp only at hw1 hw2 hw3
  simp only [oInit] at ho
  split at ho
  · rename_i a rr
    split at ho
    
    · rename_i hc0
      cases ho
      refine ⟨rfl, rfl, fun u hu => ?_, ?_⟩
      · exact hw2 u (List.mem_cons_of_mem _ hu)
      · intro p l e R s m args below meth c D ca sv A Qf cells slots ad H locs la hC hc hs hL hP hD hS hl K
        obtain ⟨hx, hb, hml, hr, hown, hts, hlk, hK, hN, hZ, hA, hnm, hfr, hlo⟩ := hC
        rw [hM] at hb hml hr hown hnm hfr hlo
        dsimp only at hb hml hr hown hnm hfr hlo
        exact W.objInit hx hb hown (hts _ hw0) (hts _ hw4) (hts _ hw5) rfl (by rw [hml]; exact hl.1.trans (hL.trans (by rw [hM]))) rfl hd (by omega) (by rw [gcat_map hZ.2.2.2.2.1]; show 2 * 0 + _ + 12 ≤ _; omega) K
    · cases ho
  · cases ho
theorem ok_mmax (hM : mt i = (y, B, L, r, O, lv)) {index : Nat} (hd : decode B pc = .ok (.invokestatic index, 3)) (hv : 1 ≤ lv) (hw0 : Cond.methodLink O index Lib.Math.max.name ∈ gWs) (hw4 : Cond.static Lib.Math.max.name ∈ gWs) (hw6 : Cond.initialized "java/lang/Math" ∈ gWs) (hw5 : Cond.code Lib.Math.max.name Lib.Math.max.code 2 (some .int) ∈ gWs) : gOk mt X i pc (oMx (fun a b => if a < b then b else a) (pc + 3)) := by
  refine ok_pure ?_
  intro S q S' ho hw
  obtain ⟨ls, st, n, k, w⟩ := S
  obtain ⟨hw1, hw2, hw3⟩ := hw
  dsimp only at hw1 hw2 hw3
  simp only [oMx] at ho
  split at ho
  · rename_i b a rr
    split at ho
    
    · rename_i hc0
      cases ho
      refine ⟨rfl, rfl, fun u hu => ?_, ?_⟩
      · rcases List.mem_cons.mp hu with rfl | h
        · exact gok_int
        · exact hw2 u (List.mem_cons_of_mem _ (List.mem_cons_of_mem _ (h)))
      · intro p l e R s m args below meth c D ca sv A Qf cells slots ad H locs la hC hc hs hL hP hD hS hl K
        obtain ⟨hx, hb, hml, hr, hown, hts, hlk, hK, hN, hZ, hA, hnm, hfr, hlo⟩ := hC
        rw [hM] at hb hml hr hown hnm hfr hlo
        dsimp only at hb hml hr hown hnm hfr hlo
        exact va_mmax hx hb (by rw [hml]; exact (hl.1.trans (hL.trans (by rw [hM]))).symm) hown (hts _ hw0) (hts _ hw4) (hts _ hw6) (hts _ hw5) (by omega) (by rw [gcat_map hZ.2.2.2.2.1]; omega) hc hs hd K
    · cases ho
  · cases ho
theorem ok_mmin (hM : mt i = (y, B, L, r, O, lv)) {index : Nat} (hd : decode B pc = .ok (.invokestatic index, 3)) (hv : 1 ≤ lv) (hw0 : Cond.methodLink O index Lib.Math.min.name ∈ gWs) (hw4 : Cond.static Lib.Math.min.name ∈ gWs) (hw6 : Cond.initialized "java/lang/Math" ∈ gWs) (hw5 : Cond.code Lib.Math.min.name Lib.Math.min.code 2 (some .int) ∈ gWs) : gOk mt X i pc (oMx (fun a b => if b < a then b else a) (pc + 3)) := by
  refine ok_pure ?_
  intro S q S' ho hw
  obtain ⟨ls, st, n, k, w⟩ := S
  obtain ⟨hw1, hw2, hw3⟩ := hw
  dsimp only at hw1 hw2 hw3
  simp only [oMx] at ho
  split at ho
  · rename_i b a rr
    split at ho
    
    · rename_i hc0
      cases ho
      refine ⟨rfl, rfl, fun u hu => ?_, ?_⟩
      · rcases List.mem_cons.mp hu with rfl | h
        · exact gok_int
        · exact hw2 u (List.mem_cons_of_mem _ (List.mem_cons_of_mem _ (h)))
      · intro p l e R s m args below meth c D ca sv A Qf cells slots ad H locs la hC hc hs hL hP hD hS hl K
        obtain ⟨hx, hb, hml, hr, hown, hts, hlk, hK, hN, hZ, hA, hnm, hfr, hlo⟩ := hC
        rw [hM] at hb hml hr hown hnm hfr hlo
        dsimp only at hb hml hr hown hnm hfr hlo
        exact va_mmin hx hb (by rw [hml]; exact (hl.1.trans (hL.trans (by rw [hM]))).symm) hown (hts _ hw0) (hts _ hw4) (hts _ hw6) (hts _ hw5) (by omega) (by rw [gcat_map hZ.2.2.2.2.1]; omega) hc hs hd K
    · cases ho
  · cases ho
def gtab (pc : Nat) (dflt lo : Int) (offs : List Int) (x : Int32) : Nat := ((pc : Int) + (if x.toInt < lo ∨ lo + offs.length ≤ x.toInt then dflt else offs.getD (x.toInt - lo).toNat dflt)).toNat
def glook (pc : Nat) (dflt : Int) (ps : List (Int × Int)) (x : Int32) : Nat := ((pc : Int) + Op.lookupswitch.offset ps dflt x.toInt).toNat
theorem ok_table (hM : mt i = (y, B, L, r, O, lv)) {dflt lo hi : Int} {offs : Array Int} {len : Nat} (hd : decode B pc = .ok (.tableswitch dflt lo hi offs, len)) (hh : hi + 1 = lo + offs.size) (hz : ∀ o ∈ dflt :: offs.toList, 0 ≤ (pc : Int) + o) : gOk mt X i pc (oSw (gtab pc dflt lo offs.toList)) := by
  refine ok_pure ?_
  intro S q S' ho hw
  obtain ⟨ls, st, n, k, w⟩ := S
  obtain ⟨hw1, hw2, hw3⟩ := hw
  dsimp only at hw1 hw2 hw3
  simp only [oSw] at ho
  split at ho
  · rename_i x rr
    cases ho
    refine ⟨rfl, rfl, fun u hu => ?_, ?_⟩
    · exact hw2 u (List.mem_cons_of_mem _ hu)
    · intro p l e R s m args below meth c D ca sv A Qf cells slots ad H locs la hC hc hs hL hP hD hS hl K
      obtain ⟨hx, hb, hml, hr, hown, hts, hlk, hK, hN, hZ, hA, hnm, hfr, hlo⟩ := hC
      rw [hM] at hb hml hr hown hnm hfr hlo
      dsimp only at hb hml hr hown hnm hfr hlo
      by_cases hq : x.toInt < lo ∨ hi < x.toInt
      · refine lv_tableOut hx hb hd hq (tgt := gtab pc dflt lo offs.toList x) ?_ K
        have e1 : x.toInt < lo ∨ lo + offs.toList.length ≤ x.toInt := by
          rcases hq with q | q
          · exact Or.inl q
          · refine Or.inr ?_
            rw [Array.length_toList]
            omega
        unfold gtab
        rw [if_pos e1]
        have := hz dflt List.mem_cons_self
        omega
      · have q1 : ¬ x.toInt < lo := fun z => hq (Or.inl z)
        have q2 : ¬ hi < x.toInt := fun z => hq (Or.inr z)
        have q3 : (x.toInt - lo).toNat < offs.size := by omega
        refine lv_tableIn hx hb hd q1 q2 (off := offs[(x.toInt - lo).toNat]) (Array.getElem?_eq_getElem q3) (tgt := gtab pc dflt lo offs.toList x) ?_ K
        have e1 : ¬ (x.toInt < lo ∨ lo + offs.toList.length ≤ x.toInt) := by
          rw [Array.length_toList]
          omega
        have e2 : offs.toList.getD (x.toInt - lo).toNat dflt = offs[(x.toInt - lo).toNat] := by
          simp [List.getD_eq_getElem?_getD, q3]
        unfold gtab
        rw [if_neg e1, e2]
        have := hz offs[(x.toInt - lo).toNat] (List.mem_cons_of_mem _ (by simp))
        omega
  · cases ho
theorem ok_lookup (hM : mt i = (y, B, L, r, O, lv)) {dflt : Int} {ps : Array (Int × Int)} {len : Nat} (hd : decode B pc = .ok (.lookupswitch dflt ps, len)) (hp : (ps.toList.zip (ps.toList.drop 1)).all (fun (a, next) => a.1 < next.1) = true) (hz : ∀ x : Int, 0 ≤ (pc : Int) + Op.lookupswitch.offset ps.toList dflt x) : gOk mt X i pc (oSw (glook pc dflt ps.toList)) := by
  refine ok_pure ?_
  intro S q S' ho hw
  obtain ⟨ls, st, n, k, w⟩ := S
  obtain ⟨hw1, hw2, hw3⟩ := hw
  dsimp only at hw1 hw2 hw3
  simp only [oSw] at ho
  split at ho
  · rename_i x rr
    cases ho
    refine ⟨rfl, rfl, fun u hu => ?_, ?_⟩
    · exact hw2 u (List.mem_cons_of_mem _ hu)
    · intro p l e R s m args below meth c D ca sv A Qf cells slots ad H locs la hC hc hs hL hP hD hS hl K
      obtain ⟨hx, hb, hml, hr, hown, hts, hlk, hK, hN, hZ, hA, hnm, hfr, hlo⟩ := hC
      rw [hM] at hb hml hr hown hnm hfr hlo
      dsimp only at hb hml hr hown hnm hfr hlo
      refine lv_lookup hx hb hd hp rfl (tgt := glook pc dflt ps.toList x) ?_ K
      unfold glook
      have := hz x.toInt
      omega
  · cases ho
theorem ok_slen (hM : mt i = (y, B, L, r, O, lv)) (hd : decode B pc = .ok (.arraylength, 1)) : gOk mt X i pc (oSLen X (pc + 1)) := by
  refine ok_pure ?_
  intro S q S' ho hw
  obtain ⟨ls, st, n, k, w⟩ := S
  obtain ⟨hw1, hw2, hw3⟩ := hw
  dsimp only at hw1 hw2 hw3
  simp only [oSLen] at ho
  split at ho
  · rename_i rr
    cases ho
    refine ⟨rfl, rfl, fun u hu => ?_, ?_⟩
    · rcases List.mem_cons.mp hu with rfl | h
      · exact gok_int
      · exact hw2 u (List.mem_cons_of_mem _ (h))
    · intro p l e R s m args below meth c D ca sv A Qf cells slots ad H locs la hC hc hs hL hP hD hS hl K
      obtain ⟨hx, hb, hml, hr, hown, hts, hlk, hK, hN, hZ, hA, hnm, hfr, hlo⟩ := hC
      rw [hM] at hb hml hr hown hnm hfr hlo
      dsimp only at hb hml hr hown hnm hfr hlo
      obtain ⟨b, e1, e2, e3, e4⟩ := hZ.1
      have e5 : gv sv ad (.retAddr 0) = .ref b := e1
      simp only [List.map_cons, e5]
      exact va_slen hx hb e2 e3 e4 hS hd K
  · cases ho
theorem ok_sld (hM : mt i = (y, B, L, r, O, lv)) (hd : decode B pc = .ok (.iaload, 1)) : gOk mt X i pc (oSLd X (pc + 1)) := by
  refine ok_pure ?_
  intro S q S' ho hw
  obtain ⟨ls, st, n, k, w⟩ := S
  obtain ⟨hw1, hw2, hw3⟩ := hw
  dsimp only at hw1 hw2 hw3
  simp only [oSLd] at ho
  split at ho
  · rename_i x rr
    split at ho
    
    · cases ho
    · rename_i hc0
      cases ho
      refine ⟨rfl, rfl, fun u hu => ?_, ?_⟩
      · rcases List.mem_cons.mp hu with rfl | h
        · exact gok_int
        · exact hw2 u (List.mem_cons_of_mem _ (List.mem_cons_of_mem _ (h)))
      · intro p l e R s m args below meth c D ca sv A Qf cells slots ad H locs la hC hc hs hL hP hD hS hl K
        obtain ⟨hx, hb, hml, hr, hown, hts, hlk, hK, hN, hZ, hA, hnm, hfr, hlo⟩ := hC
        rw [hM] at hb hml hr hown hnm hfr hlo
        dsimp only at hb hml hr hown hnm hfr hlo
        obtain ⟨b, e1, e2, e3, e4⟩ := hZ.1
        have e5 : gv sv ad (.retAddr 0) = .ref b := e1
        simp only [List.map_cons, e5]
        exact va_sld hx hb e2 e3 e4 hS hc0 hd K
  · cases ho
/-- a step that changes locals and stack -/
theorem ok_loc {o : gS → Option (Nat × gS)} (h : ∀ (S : gS) (q : Nat) (S' : gS), o S = some (q, S') → gwf S → S'.2.2 = S.2.2 ∧ S'.1.length = S.1.length ∧ (∀ v ∈ S'.1, gok S.2.2.1 v) ∧ (∀ v ∈ S'.2.1, gok S.2.2.1 v) ∧
    ∀ (p : Program) (l : Launch) (e : Env) (R : Room) (s : State) (m : MethodId) (args : Array Value) (below : List Frame) (meth : Method) (c : Code) (D : va_G) (ca : FieldType → ClassId) (sv : Nat → Value) (A : Nat → Prop) (Qf : State → Prop) (cells slots : Nat) (ad : Nat → Nat) (H : Heap) (locs : List Loc) (la : Array Slot),
      gC mt X i p R s m args meth c D ca sv A → S.1.length = (mt i).2.2.1 → gLo sv ad la S.1 →
      (∀ la', gLo sv ad la' S'.1 → W p l e R s m args below meth c H locs cells slots Qf (F0 m q la' (S'.2.1.map (gv sv ad)))) → W p l e R s m args below meth c H locs cells slots Qf (F0 m pc la (S.2.1.map (gv sv ad)))) : gOk mt X i pc o := by
  intro S q S' ho hw
  obtain ⟨h2, h1, h0, h3, h4⟩ := h S q S' ho hw
  obtain ⟨ls, st, n, k, w⟩ := S
  obtain ⟨ls', st', nkw⟩ := S'
  dsimp only at h1 h2 h3 h4 h0
  subst h2
  refine ⟨⟨h0, h3, hw.2.2⟩, Nat.le_refl _, Nat.le_refl _, h1, ?_⟩
  intro p l e R s m args below meth c D ca sv A n0 k0 ad0 Qf hC hn hk hL hc hs K ad H locs la hR
  exact h4 p l e R s m args below meth c D ca sv A Qf _ _ ad H locs la hC hL hR.2.2.2.1 (fun la' hl' => K ad H locs la' ⟨hR.1, hR.2.1, hR.2.2.1, hl', hR.2.2.2.2⟩)
/-- a step that changes a cell, and the stack -/
theorem ok_heap {o : gS → Option (Nat × gS)} (h : ∀ (S : gS) (q : Nat) (S' : gS), o S = some (q, S') → gwf S → S'.1 = S.1 ∧ S'.2.2.1 = S.2.2.1 ∧ S'.2.2.2.1 = S.2.2.2.1 ∧ (∀ v ∈ S'.2.1, gok S.2.2.1 v) ∧ (∀ a, a < S.2.2.1 → gcok S.2.2.1 (S'.2.2.2.2 a)) ∧
    ∀ (p : Program) (l : Launch) (e : Env) (R : Room) (s : State) (m : MethodId) (args : Array Value) (below : List Frame) (meth : Method) (c : Code) (D : va_G) (ca : FieldType → ClassId) (sv : Nat → Value) (A : Nat → Prop) (Qf : State → Prop) (cells slots : Nat) (ad : Nat → Nat) (H : Heap) (locs : List Loc) (la : Array Slot),
      gC mt X i p R s m args meth c D ca sv A → cells ≤ R.cells → slots ≤ R.slots → S.1.length = (mt i).2.2.1 → va_P D vwCl (gL ca sv ad S.2.2.1 S.2.2.2.2) H → va_D A (gL ca sv ad S.2.2.1 S.2.2.2.2) → va_S A s.heap H locs → gLo sv ad la S.1 →
      (∀ (H1 : Heap) (locs1 : List Loc), va_P D vwCl (gL ca sv ad S.2.2.1 S'.2.2.2.2) H1 → va_D A (gL ca sv ad S.2.2.1 S'.2.2.2.2) → va_S A s.heap H1 locs1 → W p l e R s m args below meth c H1 locs1 cells slots Qf (F0 m q la (S'.2.1.map (gv sv ad)))) → W p l e R s m args below meth c H locs cells slots Qf (F0 m pc la (S.2.1.map (gv sv ad)))) : gOk mt X i pc o := by
  intro S q S' ho hw
  obtain ⟨h1, h2, h2', h3, h5, h4⟩ := h S q S' ho hw
  obtain ⟨ls, st, n, k, w⟩ := S
  obtain ⟨ls', st', n', k', w'⟩ := S'
  dsimp only at h1 h2 h2' h3 h4 h5
  subst h1
  subst h2
  subst h2'
  refine ⟨⟨hw.1, h3, h5⟩, Nat.le_refl _, Nat.le_refl _, rfl, ?_⟩
  intro p l e R s m args below meth c D ca sv A n0 k0 ad0 Qf hC hn hk hL hc hs K ad H locs la hR
  exact h4 p l e R s m args below meth c D ca sv A Qf _ _ ad H locs la hC hc hs hL hR.1 hR.2.1 hR.2.2.1 hR.2.2.2.1 (fun H1 locs1 q1 q2 q3 => K ad H1 locs1 la ⟨q1, q2, q3, hR.2.2.2.1, hR.2.2.2.2⟩)
theorem gset_ok {n : Nat} {ls : List Value} {j : Nat} {v : Value} (h : ∀ v ∈ ls, gok n v) (hv : gok n v) : ∀ u ∈ ls.set j v, gok n u := fun u hu => by
  rcases List.mem_or_eq_of_mem_set hu with q | q
  · exact h u q
  · rw [q]; exact hv
theorem gup_ok {n a : Nat} {w : gH} {e : gE} (h : ∀ b, b < n → gcok n (w b)) (he : gcok n e) : ∀ b, b < n → gcok n (va_up w a e b) := fun b hb => by
  by_cases q : b = a
  · subst q; simp only [va_up, if_true]; exact he
  · simp only [va_up, if_neg q]; exact h b hb
theorem ok_istore_n (hM : mt i = (y, B, L, r, O, lv)) {j : Nat} {a : Fin 4} (hd : decode B pc = .ok (.istore_n a, 1)) (ha : (a : Nat) = j) : gOk mt X i pc (oStI j (pc + 1)) := by
  refine ok_loc ?_
  intro S q S' ho hw
  obtain ⟨ls, st, n, k, w⟩ := S
  obtain ⟨hw1, hw2, hw3⟩ := hw
  dsimp only at hw1 hw2 hw3
  simp only [oStI] at ho
  split at ho
  · rename_i x rr
    split at ho
    · rename_i hc0
      cases ho
      refine ⟨rfl, List.length_set .., gset_ok hw1 (hw2 _ List.mem_cons_self), fun u hu => hw2 u (List.mem_cons_of_mem _ hu), ?_⟩
      intro p l e R s m args below meth c D ca sv A Qf cells slots ad H locs la hC hL hl K
      obtain ⟨hx, hb, hml, hr, hown, hts, hlk, hK, hN, hZ, hA, hnm, hfr, hlo⟩ := hC
      rw [hM] at hb hml hr hown hnm hfr hlo
      dsimp only at hb hml hr hown hnm hfr hlo
      exact lv_istore_n hx hb hd ha hl.has hc0.1 rfl (fun la' hl' => K la' (gLo_set hZ.2.2.2.2.1 hc0.1 hc0.2 hl'))
    · cases ho
  · cases ho
theorem ok_istore (hM : mt i = (y, B, L, r, O, lv)) {j : Nat} (hd : decode B pc = .ok (.istore j, 2)) : gOk mt X i pc (oStI j (pc + 2)) := by
  refine ok_loc ?_
  intro S q S' ho hw
  obtain ⟨ls, st, n, k, w⟩ := S
  obtain ⟨hw1, hw2, hw3⟩ := hw
  dsimp only at hw1 hw2 hw3
  simp only [oStI] at ho
  split at ho
  · rename_i x rr
    split at ho
    · rename_i hc0
      cases ho
      refine ⟨rfl, List.length_set .., gset_ok hw1 (hw2 _ List.mem_cons_self), fun u hu => hw2 u (List.mem_cons_of_mem _ hu), ?_⟩
      intro p l e R s m args below meth c D ca sv A Qf cells slots ad H locs la hC hL hl K
      obtain ⟨hx, hb, hml, hr, hown, hts, hlk, hK, hN, hZ, hA, hnm, hfr, hlo⟩ := hC
      rw [hM] at hb hml hr hown hnm hfr hlo
      dsimp only at hb hml hr hown hnm hfr hlo
      exact lv_istore hx hb hd hl.has hc0.1 rfl (fun la' hl' => K la' (gLo_set hZ.2.2.2.2.1 hc0.1 hc0.2 hl'))
    · cases ho
  · cases ho
theorem ok_astore_n (hM : mt i = (y, B, L, r, O, lv)) {j : Nat} {a : Fin 4} (hd : decode B pc = .ok (.astore_n a, 1)) (ha : (a : Nat) = j) : gOk mt X i pc (oStA j (pc + 1)) := by
  refine ok_loc ?_
  intro S q S' ho hw
  obtain ⟨ls, st, n, k, w⟩ := S
  obtain ⟨hw1, hw2, hw3⟩ := hw
  dsimp only at hw1 hw2 hw3
  simp only [oStA] at ho
  split at ho
  · rename_i x rr
    split at ho
    · rename_i hc0
      cases ho
      refine ⟨rfl, List.length_set .., gset_ok hw1 (hw2 _ List.mem_cons_self), fun u hu => hw2 u (List.mem_cons_of_mem _ hu), ?_⟩
      intro p l e R s m args below meth c D ca sv A Qf cells slots ad H locs la hC hL hl K
      obtain ⟨hx, hb, hml, hr, hown, hts, hlk, hK, hN, hZ, hA, hnm, hfr, hlo⟩ := hC
      rw [hM] at hb hml hr hown hnm hfr hlo
      dsimp only at hb hml hr hown hnm hfr hlo
      exact lv_astore_n hx hb hd ha hl.has hc0.1 rfl (fun la' hl' => K la' (gLo_set hZ.2.2.2.2.1 hc0.1 hc0.2 hl'))
    · cases ho
  · cases ho
theorem ok_astore (hM : mt i = (y, B, L, r, O, lv)) {j : Nat} (hd : decode B pc = .ok (.astore j, 2)) : gOk mt X i pc (oStA j (pc + 2)) := by
  refine ok_loc ?_
  intro S q S' ho hw
  obtain ⟨ls, st, n, k, w⟩ := S
  obtain ⟨hw1, hw2, hw3⟩ := hw
  dsimp only at hw1 hw2 hw3
  simp only [oStA] at ho
  split at ho
  · rename_i x rr
    split at ho
    · rename_i hc0
      cases ho
      refine ⟨rfl, List.length_set .., gset_ok hw1 (hw2 _ List.mem_cons_self), fun u hu => hw2 u (List.mem_cons_of_mem _ hu), ?_⟩
      intro p l e R s m args below meth c D ca sv A Qf cells slots ad H locs la hC hL hl K
      obtain ⟨hx, hb, hml, hr, hown, hts, hlk, hK, hN, hZ, hA, hnm, hfr, hlo⟩ := hC
      rw [hM] at hb hml hr hown hnm hfr hlo
      dsimp only at hb hml hr hown hnm hfr hlo
      exact lv_astore hx hb hd hl.has hc0.1 rfl (fun la' hl' => K la' (gLo_set hZ.2.2.2.2.1 hc0.1 hc0.2 hl'))
    · cases ho
  · cases ho
theorem ok_lstore_n (hM : mt i = (y, B, L, r, O, lv)) {j : Nat} {a : Fin 4} (hd : decode B pc = .ok (.lstore_n a, 1)) (ha : (a : Nat) = j) : gOk mt X i pc (oStL j (pc + 1)) := by
  refine ok_loc ?_
  intro S q S' ho hw
  obtain ⟨ls, st, n, k, w⟩ := S
  obtain ⟨hw1, hw2, hw3⟩ := hw
  dsimp only at hw1 hw2 hw3
  simp only [oStL] at ho
  split at ho
  · rename_i x rr
    split at ho
    · rename_i hc0
      cases ho
      refine ⟨rfl, by simp, gset_ok (gset_ok hw1 gok_long) gok_null, fun u hu => hw2 u (List.mem_cons_of_mem _ hu), ?_⟩
      intro p l e R s m args below meth c D ca sv A Qf cells slots ad H locs la hC hL hl K
      obtain ⟨hx, hb, hml, hr, hown, hts, hlk, hK, hN, hZ, hA, hnm, hfr, hlo⟩ := hC
      rw [hM] at hb hml hr hown hnm hfr hlo
      dsimp only at hb hml hr hown hnm hfr hlo
      exact lv_lstore_n hx hb hd ha hl.has hc0.1 rfl (fun la' hl' => K la' (gLo_setL hZ.2.2.2.2.1 hc0.1 hc0.2 hl'))
    · cases ho
  · cases ho
theorem ok_iinc (hM : mt i = (y, B, L, r, O, lv)) {j : Nat} {a : Int} {v : Int32} (hd : decode B pc = .ok (.iinc j a, 3)) (hv : Int32.ofInt a = v) : gOk mt X i pc (oInc j v (pc + 3)) := by
  refine ok_loc ?_
  intro S q S' ho hw
  obtain ⟨ls, st, n, k, w⟩ := S
  obtain ⟨hw1, hw2, hw3⟩ := hw
  dsimp only at hw1 hw2 hw3
  simp only [oInc] at ho
  split at ho
  · rename_i x hj
    split at ho
    · rename_i hc0
      cases ho
      have hjl : j < ls.length := (List.getElem?_eq_some_iff.mp hj).1
      refine ⟨rfl, List.length_set .., gset_ok hw1 gok_int, hw2, ?_⟩
      intro p l e R s m args below meth c D ca sv A Qf cells slots ad H locs la hC hL hl K
      obtain ⟨hx, hb, hml, hr, hown, hts, hlk, hK, hN, hZ, hA, hnm, hfr, hlo⟩ := hC
      rw [hM] at hb hml hr hown hnm hfr hlo
      dsimp only at hb hml hr hown hnm hfr hlo
      have hm : (j, Value.int x) ∈ gll sv ad ls := gll_mem.mpr ⟨.int x, hj, by simp, rfl⟩
      obtain ⟨kk, hkk⟩ := List.mem_iff_getElem?.mp hm
      exact lv_iinc hx hb hd hl.has hkk (by rw [hv]) hjl rfl (fun la' hl' => K la' (gLo_set hZ.2.2.2.2.1 hjl hc0 hl'))
    · cases ho
  · cases ho
theorem ok_putI (hM : mt i = (y, B, L, r, O, lv)) {ci j index N : Nat} {C : String} {T : u_T} {ty : FieldType} (ty0 : Nat → FieldType) (hd : decode B pc = .ok (.putfield index, 3)) (hc : vwCl[ci]? = some (C, T, N)) (hin : ∀ w ∈ u_ws C T N, w ∈ gWs) (hty : ∀ k, k < N → parseFieldDescriptor (T k).2.2.1 = some (ty0 k)) (hnm0 : ∀ a, a < N → ∀ b, b < N → a ≠ b → (T a).2.1 ≠ (T b).2.1) (hj : j < N) (hw0 : Cond.fieldLink O index (T j).1 (T j).2.1 (T j).2.2.1 ∈ gWs) (hfin : (T j).2.2.2 = false) (hpd : parseFieldDescriptor (T j).2.2.1 = some ty) (hI : ty = .int) : gOk mt X i pc (oPutI ci j (pc + 3)) := by
  refine ok_heap ?_
  intro S q S' ho hw
  obtain ⟨ls, st, n, k, w⟩ := S
  obtain ⟨hw1, hw2, hw3⟩ := hw
  dsimp only at hw1 hw2 hw3
  simp only [oPutI] at ho
  split at ho
  · rename_i x a rr
    split at ho
    · rename_i fs hg
      split at ho
      · rename_i hjl
        cases ho
        have e1 := gobj_eq hg
        have ha : a < n := gok_ref.mp (hw2 _ (List.mem_cons_of_mem _ List.mem_cons_self))
        have h0 := hw3 a ha
        rw [e1] at h0
        refine ⟨rfl, rfl, rfl, fun u hu => hw2 u (List.mem_cons_of_mem _ (List.mem_cons_of_mem _ hu)), gup_ok hw3 (gset_ok h0 (hw2 _ List.mem_cons_self)), ?_⟩
        intro p l e R s m args below meth c D ca sv A Qf cells slots ad H locs la hC hc1 hs hL hP hD hS hl K
        obtain ⟨hx, hb, hml, hr, hown, hts, hlk, hK, hN, hZ, hA, hnm, hfr, hlo⟩ := hC
        rw [hM] at hb hml hr hown hnm hfr hlo
        dsimp only at hb hml hr hown hnm hfr hlo
        subst hI
        refine va_put hx hb hts hin ty0 hty hnm0 hown hK hP hD hS a (fs := fs.map (gv sv ad)) (by rw [gL_at ha]; dsimp only; rw [e1]; rfl) hc j hj (hts _ hw0) (fun _ h9 => h9) hfin  hpd rfl rfl (by rw [List.length_map]; exact hjl) hd (fun H1 locs1 q1 q2 q3 => ?_)
        have e2 : ((gL ca sv ad n w).set a (ad a, .inr (ci, (fs.map (gv sv ad)).set j (gv sv ad (.int x))))) = gL ca sv ad n (va_up w a (.inr (ci, fs.set j (.int x)))) := by
          rw [← gL_set ha, ← List.map_set]
          rfl
        have q1 : va_P D vwCl ((gL ca sv ad n w).set a (ad a, .inr (ci, (fs.map (gv sv ad)).set j (gv sv ad (.int x))))) H1 := q1
        have q2 : va_D A ((gL ca sv ad n w).set a (ad a, .inr (ci, (fs.map (gv sv ad)).set j (gv sv ad (.int x))))) := q2
        rw [e2] at q1 q2
        exact K H1 locs1 q1 q2 q3
      · cases ho
    · cases ho
  · cases ho
theorem ok_putIF (hM : mt i = (y, B, L, r, O, lv)) {ci j index N : Nat} {C : String} {T : u_T} {ty : FieldType} (ty0 : Nat → FieldType) (hd : decode B pc = .ok (.putfield index, 3)) (hc : vwCl[ci]? = some (C, T, N)) (hin : ∀ w ∈ u_ws C T N, w ∈ gWs) (hty : ∀ k, k < N → parseFieldDescriptor (T k).2.2.1 = some (ty0 k)) (hnm0 : ∀ a, a < N → ∀ b, b < N → a ≠ b → (T a).2.1 ≠ (T b).2.1) (hj : j < N) (hw0 : Cond.fieldLink O index (T j).1 (T j).2.1 (T j).2.2.1 ∈ gWs) (hfin : (T j).2.2.2 = true) (hinit : y.name = "<init>") (hdecl : (T j).1 = O) (hpd : parseFieldDescriptor (T j).2.2.1 = some ty) (hI : ty = .int) : gOk mt X i pc (oPutI ci j (pc + 3)) := by
  refine ok_heap ?_
  intro S q S' ho hw
  obtain ⟨ls, st, n, k, w⟩ := S
  obtain ⟨hw1, hw2, hw3⟩ := hw
  dsimp only at hw1 hw2 hw3
  simp only [oPutI] at ho
  split at ho
  · rename_i x a rr
    split at ho
    · rename_i fs hg
      split at ho
      · rename_i hjl
        cases ho
        have e1 := gobj_eq hg
        have ha : a < n := gok_ref.mp (hw2 _ (List.mem_cons_of_mem _ List.mem_cons_self))
        have h0 := hw3 a ha
        rw [e1] at h0
        refine ⟨rfl, rfl, rfl, fun u hu => hw2 u (List.mem_cons_of_mem _ (List.mem_cons_of_mem _ hu)), gup_ok hw3 (gset_ok h0 (hw2 _ List.mem_cons_self)), ?_⟩
        intro p l e R s m args below meth c D ca sv A Qf cells slots ad H locs la hC hc1 hs hL hP hD hS hl K
        obtain ⟨hx, hb, hml, hr, hown, hts, hlk, hK, hN, hZ, hA, hnm, hfr, hlo⟩ := hC
        rw [hM] at hb hml hr hown hnm hfr hlo
        dsimp only at hb hml hr hown hnm hfr hlo
        subst hI
        refine va_putF hx hb hts hin ty0 hty hnm0 hown hK hP hD hS a (fs := fs.map (gv sv ad)) (by rw [gL_at ha]; dsimp only; rw [e1]; rfl) hc j hj (hts _ hw0) (fun _ h9 => h9) hfin (hnm.trans hinit) hdecl hpd rfl rfl (by rw [List.length_map]; exact hjl) hd (fun H1 locs1 q1 q2 q3 => ?_)
        have e2 : ((gL ca sv ad n w).set a (ad a, .inr (ci, (fs.map (gv sv ad)).set j (gv sv ad (.int x))))) = gL ca sv ad n (va_up w a (.inr (ci, fs.set j (.int x)))) := by
          rw [← gL_set ha, ← List.map_set]
          rfl
        have q1 : va_P D vwCl ((gL ca sv ad n w).set a (ad a, .inr (ci, (fs.map (gv sv ad)).set j (gv sv ad (.int x))))) H1 := q1
        have q2 : va_D A ((gL ca sv ad n w).set a (ad a, .inr (ci, (fs.map (gv sv ad)).set j (gv sv ad (.int x))))) := q2
        rw [e2] at q1 q2
        exact K H1 locs1 q1 q2 q3
      · cases ho
    · cases ho
  · cases ho
theorem ok_putA (hM : mt i = (y, B, L, r, O, lv)) {ci j index N : Nat} {C : String} {T : u_T} {ty : FieldType} (ty0 : Nat → FieldType) (hd : decode B pc = .ok (.putfield index, 3)) (hc : vwCl[ci]? = some (C, T, N)) (hin : ∀ w ∈ u_ws C T N, w ∈ gWs) (hty : ∀ k, k < N → parseFieldDescriptor (T k).2.2.1 = some (ty0 k)) (hnm0 : ∀ a, a < N → ∀ b, b < N → a ≠ b → (T a).2.1 ≠ (T b).2.1) (hj : j < N) (hw0 : Cond.fieldLink O index (T j).1 (T j).2.1 (T j).2.2.1 ∈ gWs) (hfin : (T j).2.2.2 = false) (hpd : parseFieldDescriptor (T j).2.2.1 = some ty) (hR : ∀ b : Nat, narrow ty (.ref b) = .ref b ∧ fits ty (.ref b) = true) : gOk mt X i pc (oPutA ci j (pc + 3)) := by
  refine ok_heap ?_
  intro S q S' ho hw
  obtain ⟨ls, st, n, k, w⟩ := S
  obtain ⟨hw1, hw2, hw3⟩ := hw
  dsimp only at hw1 hw2 hw3
  simp only [oPutA] at ho
  split at ho
  · rename_i x a rr
    split at ho
    · rename_i fs hg
      split at ho
      · rename_i hjl
        cases ho
        have e1 := gobj_eq hg
        have ha : a < n := gok_ref.mp (hw2 _ (List.mem_cons_of_mem _ List.mem_cons_self))
        have h0 := hw3 a ha
        rw [e1] at h0
        refine ⟨rfl, rfl, rfl, fun u hu => hw2 u (List.mem_cons_of_mem _ (List.mem_cons_of_mem _ hu)), gup_ok hw3 (gset_ok h0 (hw2 _ List.mem_cons_self)), ?_⟩
        intro p l e R s m args below meth c D ca sv A Qf cells slots ad H locs la hC hc1 hs hL hP hD hS hl K
        obtain ⟨hx, hb, hml, hr, hown, hts, hlk, hK, hN, hZ, hA, hnm, hfr, hlo⟩ := hC
        rw [hM] at hb hml hr hown hnm hfr hlo
        dsimp only at hb hml hr hown hnm hfr hlo
        have hR0 := hR (ad x)
        refine va_put hx hb hts hin ty0 hty hnm0 hown hK hP hD hS a (fs := fs.map (gv sv ad)) (by rw [gL_at ha]; dsimp only; rw [e1]; rfl) hc j hj (hts _ hw0) (fun _ h9 => h9) hfin  hpd hR0.1 hR0.2 (by rw [List.length_map]; exact hjl) hd (fun H1 locs1 q1 q2 q3 => ?_)
        have e2 : ((gL ca sv ad n w).set a (ad a, .inr (ci, (fs.map (gv sv ad)).set j (gv sv ad (.ref x))))) = gL ca sv ad n (va_up w a (.inr (ci, fs.set j (.ref x)))) := by
          rw [← gL_set ha, ← List.map_set]
          rfl
        have q1 : va_P D vwCl ((gL ca sv ad n w).set a (ad a, .inr (ci, (fs.map (gv sv ad)).set j (gv sv ad (.ref x))))) H1 := q1
        have q2 : va_D A ((gL ca sv ad n w).set a (ad a, .inr (ci, (fs.map (gv sv ad)).set j (gv sv ad (.ref x))))) := q2
        rw [e2] at q1 q2
        exact K H1 locs1 q1 q2 q3
      · cases ho
    · cases ho
  · cases ho
theorem ok_putAF (hM : mt i = (y, B, L, r, O, lv)) {ci j index N : Nat} {C : String} {T : u_T} {ty : FieldType} (ty0 : Nat → FieldType) (hd : decode B pc = .ok (.putfield index, 3)) (hc : vwCl[ci]? = some (C, T, N)) (hin : ∀ w ∈ u_ws C T N, w ∈ gWs) (hty : ∀ k, k < N → parseFieldDescriptor (T k).2.2.1 = some (ty0 k)) (hnm0 : ∀ a, a < N → ∀ b, b < N → a ≠ b → (T a).2.1 ≠ (T b).2.1) (hj : j < N) (hw0 : Cond.fieldLink O index (T j).1 (T j).2.1 (T j).2.2.1 ∈ gWs) (hfin : (T j).2.2.2 = true) (hinit : y.name = "<init>") (hdecl : (T j).1 = O) (hpd : parseFieldDescriptor (T j).2.2.1 = some ty) (hR : ∀ b : Nat, narrow ty (.ref b) = .ref b ∧ fits ty (.ref b) = true) : gOk mt X i pc (oPutA ci j (pc + 3)) := by
  refine ok_heap ?_
  intro S q S' ho hw
  obtain ⟨ls, st, n, k, w⟩ := S
  obtain ⟨hw1, hw2, hw3⟩ := hw
  dsimp only at hw1 hw2 hw3
  simp only [oPutA] at ho
  split at ho
  · rename_i x a rr
    split at ho
    · rename_i fs hg
      split at ho
      · rename_i hjl
        cases ho
        have e1 := gobj_eq hg
        have ha : a < n := gok_ref.mp (hw2 _ (List.mem_cons_of_mem _ List.mem_cons_self))
        have h0 := hw3 a ha
        rw [e1] at h0
        refine ⟨rfl, rfl, rfl, fun u hu => hw2 u (List.mem_cons_of_mem _ (List.mem_cons_of_mem _ hu)), gup_ok hw3 (gset_ok h0 (hw2 _ List.mem_cons_self)), ?_⟩
        intro p l e R s m args below meth c D ca sv A Qf cells slots ad H locs la hC hc1 hs hL hP hD hS hl K
        obtain ⟨hx, hb, hml, hr, hown, hts, hlk, hK, hN, hZ, hA, hnm, hfr, hlo⟩ := hC
        rw [hM] at hb hml hr hown hnm hfr hlo
        dsimp only at hb hml hr hown hnm hfr hlo
        have hR0 := hR (ad x)
        refine va_putF hx hb hts hin ty0 hty hnm0 hown hK hP hD hS a (fs := fs.map (gv sv ad)) (by rw [gL_at ha]; dsimp only; rw [e1]; rfl) hc j hj (hts _ hw0) (fun _ h9 => h9) hfin (hnm.trans hinit) hdecl hpd hR0.1 hR0.2 (by rw [List.length_map]; exact hjl) hd (fun H1 locs1 q1 q2 q3 => ?_)
        have e2 : ((gL ca sv ad n w).set a (ad a, .inr (ci, (fs.map (gv sv ad)).set j (gv sv ad (.ref x))))) = gL ca sv ad n (va_up w a (.inr (ci, fs.set j (.ref x)))) := by
          rw [← gL_set ha, ← List.map_set]
          rfl
        have q1 : va_P D vwCl ((gL ca sv ad n w).set a (ad a, .inr (ci, (fs.map (gv sv ad)).set j (gv sv ad (.ref x))))) H1 := q1
        have q2 : va_D A ((gL ca sv ad n w).set a (ad a, .inr (ci, (fs.map (gv sv ad)).set j (gv sv ad (.ref x))))) := q2
        rw [e2] at q1 q2
        exact K H1 locs1 q1 q2 q3
      · cases ho
    · cases ho
  · cases ho
theorem ok_iast (hM : mt i = (y, B, L, r, O, lv)) (hd : decode B pc = .ok (.iastore, 1)) : gOk mt X i pc (oIast (pc + 1)) := by
  refine ok_heap ?_
  intro S q S' ho hw
  obtain ⟨ls, st, n, k, w⟩ := S
  obtain ⟨hw1, hw2, hw3⟩ := hw
  dsimp only at hw1 hw2 hw3
  simp only [oIast] at ho
  split at ho
  · rename_i x2 x a rr
    split at ho
    · rename_i mm f hg
      split at ho
      · cases ho
      · rename_i hin
        cases ho
        have e1 := garr_eq hg
        have ha : a < n := gok_ref.mp (hw2 _ (List.mem_cons_of_mem _ (List.mem_cons_of_mem _ List.mem_cons_self)))
        refine ⟨rfl, rfl, rfl, fun u hu => hw2 u (List.mem_cons_of_mem _ (List.mem_cons_of_mem _ (List.mem_cons_of_mem _ hu))), gup_ok hw3 trivial, ?_⟩
        intro p l e R s m args below meth c D ca sv A Qf cells slots ad H locs la hC hc hs hL hP hD hS hl K
        obtain ⟨hx, hb, hml, hr, hown, hts, hlk, hK, hN, hZ, hA, hnm, hfr, hlo⟩ := hC
        rw [hM] at hb hml hr hown hnm hfr hlo
        dsimp only at hb hml hr hown hnm hfr hlo
        refine va_iast hx hb hK hP hD hS a 0 (cA := ca .int) (n := mm) (f := f) (by rw [gL_at ha]; dsimp only; rw [e1]; rfl) rfl hin hd (fun H1 locs1 q1 q2 q3 => ?_)
        have e2 := gL_set (ca := ca) (sv := sv) (ad := ad) (w := w) ha (.inl (.int, mm, .inl (upd f x.toNatClampNeg x2)))
        exact K H1 locs1 (e2 ▸ q1) (e2 ▸ q2) q3
    · cases ho
  · cases ho
theorem ok_zast (hM : mt i = (y, B, L, r, O, lv)) (hd : decode B pc = .ok (.bastore, 1)) : gOk mt X i pc (oZast (pc + 1)) := by
  refine ok_heap ?_
  intro S q S' ho hw
  obtain ⟨ls, st, n, k, w⟩ := S
  obtain ⟨hw1, hw2, hw3⟩ := hw
  dsimp only at hw1 hw2 hw3
  simp only [oZast] at ho
  split at ho
  · rename_i x2 x a rr
    split at ho
    · rename_i mm f hg
      split at ho
      · cases ho
      · rename_i hin
        cases ho
        have e1 := garr_eq hg
        have ha : a < n := gok_ref.mp (hw2 _ (List.mem_cons_of_mem _ (List.mem_cons_of_mem _ List.mem_cons_self)))
        refine ⟨rfl, rfl, rfl, fun u hu => hw2 u (List.mem_cons_of_mem _ (List.mem_cons_of_mem _ (List.mem_cons_of_mem _ hu))), gup_ok hw3 trivial, ?_⟩
        intro p l e R s m args below meth c D ca sv A Qf cells slots ad H locs la hC hc hs hL hP hD hS hl K
        obtain ⟨hx, hb, hml, hr, hown, hts, hlk, hK, hN, hZ, hA, hnm, hfr, hlo⟩ := hC
        rw [hM] at hb hml hr hown hnm hfr hlo
        dsimp only at hb hml hr hown hnm hfr hlo
        refine va_zast hx hb hK hP hD hS a 1 (cA := ca .boolean) (n := mm) (f := f) (by rw [gL_at ha]; dsimp only; rw [e1]; rfl) rfl hin hd (fun H1 locs1 q1 q2 q3 => ?_)
        have e2 := gL_set (ca := ca) (sv := sv) (ad := ad) (w := w) ha (.inl (.boolean, mm, .inl (upd f x.toNatClampNeg (vp_nar .boolean x2))))
        exact K H1 locs1 (e2 ▸ q1) (e2 ▸ q2) q3
    · cases ho
  · cases ho
theorem ok_aast (hM : mt i = (y, B, L, r, O, lv)) (hd : decode B pc = .ok (.aastore, 1)) : gOk mt X i pc (oAast (.object "CoinTrack$Track") 3 (pc + 1)) := by
  refine ok_heap ?_
  intro S q S' ho hw
  obtain ⟨ls, st, n, k, w⟩ := S
  obtain ⟨hw1, hw2, hw3⟩ := hw
  dsimp only at hw1 hw2 hw3
  simp only [oAast] at ho
  split at ho
  · rename_i x2 x a rr
    split at ho
    · rename_i fs mm f hu hg
      split at ho
      · cases ho
      · rename_i hin
        cases ho
        have e0 := gobj_eq hu
        have e1 := garq_eq hg
        have ha : a < n := gok_ref.mp (hw2 _ (List.mem_cons_of_mem _ (List.mem_cons_of_mem _ List.mem_cons_self)))
        have hb2 : x2 < n := gok_ref.mp (hw2 _ List.mem_cons_self)
        have h0 := hw3 a ha
        rw [e1] at h0
        refine ⟨rfl, rfl, rfl, fun u hu => hw2 u (List.mem_cons_of_mem _ (List.mem_cons_of_mem _ (List.mem_cons_of_mem _ hu))), gup_ok hw3 (fun j b hj => ?_), ?_⟩
        · by_cases hq : j = x.toNatClampNeg
          · simp only [va_up, if_pos hq] at hj
            cases hj
            exact hb2
          · simp only [va_up, if_neg hq] at hj
            exact h0 j b hj
        intro p l e R s m args below meth c D ca sv A Qf cells slots ad H locs la hC hc hs hL hP hD hS hl K
        obtain ⟨hx, hb, hml, hr, hown, hts, hlk, hK, hN, hZ, hA, hnm, hfr, hlo⟩ := hC
        rw [hM] at hb hml hr hown hnm hfr hlo
        dsimp only at hb hml hr hown hnm hfr hlo
        refine va_astq hx hb hK hP hD hS a 2 x2 3 (cA := ca (.object "CoinTrack$Track")) (r := (RX3, TX3, 7)) (n := mm) (f := fun j => (f j).map ad) (vs := fs.map (gv sv ad)) (by rw [gL_at ha]; dsimp only; rw [e1]; rfl) rfl (by rw [gL_at hb2]; dsimp only; rw [e0]; rfl) rfl hin hd (fun H1 locs1 q1 q2 q3 => ?_)
        have e2 := gL_set (ca := ca) (sv := sv) (ad := ad) (w := w) ha (.inl (.object "CoinTrack$Track", mm, .inr (.inr (.inr (.inr (va_up f x.toNatClampNeg (some x2)))))))
        have e3 : (fun j => ((va_up f x.toNatClampNeg (some x2)) j).map ad) = va_up (fun j => (f j).map ad) x.toNatClampNeg (some (ad x2)) := by
          funext j
          by_cases hq : j = x.toNatClampNeg <;> simp [va_up, hq]
        simp only [gc, e3] at e2
        exact K H1 locs1 (e2 ▸ q1) (e2 ▸ q2) q3
    · cases ho
  · cases ho
theorem ok_copy (hM : mt i = (y, B, L, r, O, lv)) {index : Nat} (hd : decode B pc = .ok (.invokestatic index, 3)) (hv : 1 ≤ lv) (hw0 : Cond.methodLink O index arraycopyName ∈ gWs) (hw4 : Cond.native arraycopyName ∈ gWs) (hw5 : Cond.static arraycopyName ∈ gWs) (hw6 : Cond.initialized "java/lang/System" ∈ gWs) : gOk mt X i pc (oCopy (pc + 3)) := by
  refine ok_heap ?_
  intro S q S' ho hw
  obtain ⟨ls, st, n, k, w⟩ := S
  obtain ⟨hw1, hw2, hw3⟩ := hw
  dsimp only at hw1 hw2 hw3
  simp only [oCopy] at ho
  split at ho
  · rename_i x2 dp b sp a rr
    split at ho
    · rename_i mf f mg g hu hg
      split at ho
      · rename_i hin
        cases ho
        have e0 := garr_eq hu
        have e1 := garr_eq hg
        have hb2 : b < n := gok_ref.mp (hw2 _ (List.mem_cons_of_mem _ (List.mem_cons_of_mem _ List.mem_cons_self)))
        have ha : a < n := gok_ref.mp (hw2 _ (List.mem_cons_of_mem _ (List.mem_cons_of_mem _ (List.mem_cons_of_mem _ (List.mem_cons_of_mem _ List.mem_cons_self)))))
        refine ⟨rfl, rfl, rfl, fun u hu => hw2 u (List.mem_cons_of_mem _ (List.mem_cons_of_mem _ (List.mem_cons_of_mem _ (List.mem_cons_of_mem _ (List.mem_cons_of_mem _ hu))))), gup_ok hw3 trivial, ?_⟩
        intro p l e R s m args below meth c D ca sv A Qf cells slots ad H locs la hC hc hs hL hP hD hS hl K
        obtain ⟨hx, hb, hml, hr, hown, hts, hlk, hK, hN, hZ, hA, hnm, hfr, hlo⟩ := hC
        rw [hM] at hb hml hr hown hnm hfr hlo
        dsimp only at hb hml hr hown hnm hfr hlo
        have hlo2 : 26 ≤ R.locals := by omega
        have hnf : nativeFrameWords "java/lang/System" "arraycopy" 5 = 7 := by decide +kernel
        have hlo3 : ((rr.map (gv sv ad)).map fun v => v.category).sum + (nativeFrameWords "java/lang/System" "arraycopy" 5 + 11) ≤ R.locals := by
          rw [gcat_map hZ.2.2.2.2.1, hnf]
          omega
        refine va_copyi hx hb (by rw [hml]; exact (hl.1.trans (hL.trans (by rw [hM]))).symm) hown (hts _ hw0) (hts _ hw4) (hts _ hw5) (hts _ hw6) hK hP hD hS a b 0 0 (ty := .int) (c0 := ca .int) (c1 := ca .int) (n0 := mf) (n1 := mg) (f := f) (g := g) (by rw [gL_at ha]; dsimp only; rw [e0]; rfl) (by rw [gL_at hb2]; dsimp only; rw [e1]; rfl) rfl rfl rfl hin.2.1 hin.2.2.1 hin.2.2.2.1 hin.2.2.2.2.1 hin.2.2.2.2.2 (fun _ _ => rfl) (by omega) hlo3 hd (fun H1 locs1 q1 q2 q3 => ?_)
        have e2 := gL_set (ca := ca) (sv := sv) (ad := ad) (w := w) hb2 (.inl (.int, mg, .inl (va_cpy f g sp.toNatClampNeg dp.toNatClampNeg x2.toNatClampNeg)))
        exact K H1 locs1 (e2 ▸ q1) (e2 ▸ q2) q3
      · cases ho
    · cases ho
  · cases ho
theorem ok_new (hM : mt i = (y, B, L, r, O, lv)) {ci index N : Nat} {C : String} {T : u_T} {fs : List Value} (ty0 : Nat → FieldType) (hd : decode B pc = .ok (.new index, 3)) (hc : vwCl[ci]? = some (C, T, N)) (hin : ∀ w ∈ u_ws C T N, w ∈ gWs) (hty : ∀ k, k < N → parseFieldDescriptor (T k).2.2.1 = some (ty0 k)) (hw0 : Cond.classLink O index C ∈ gWs) (hw4 : Cond.instantiable C N ∈ gWs) (hw5 : Cond.initialized C ∈ gWs) (hfs : ∀ j, j < N → defaultValue (ty0 j) = vp_V fs j) (hf0 : ∀ v ∈ fs, v = .null ∨ v = .int 0) : gOk mt X i pc (oNew ci N fs (pc + 3)) := by
  intro S q S' ho hw
  obtain ⟨ls, st, n, k, w⟩ := S
  obtain ⟨hw1, hw2, hw3⟩ := hw
  dsimp only at hw1 hw2 hw3
  simp only [oNew] at ho
  cases ho
  have hcell : gcok n (.inr (ci, fs)) := fun v hv => (hf0 v hv).elim (fun e => e ▸ gok_null) (fun e => e ▸ gok_int)
  refine ⟨⟨fun u hu => gok_le (Nat.le_succ n) (hw1 u hu), fun u hu => ?_, ?_⟩, Nat.le_succ n, Nat.le_add_right _ _, rfl, ?_⟩
  · rcases List.mem_cons.mp hu with rfl | h
    · exact gok_ref.mpr (Nat.lt_succ_self n)
    · exact gok_le (Nat.le_succ n) (hw2 u h)
  · intro b hb
    dsimp only at hb ⊢
    by_cases hq : b = n
    · subst hq
      simp only [va_up, if_true]
      exact gcok_le (Nat.le_succ _) hcell
    · simp only [va_up, if_neg hq]
      exact gcok_le (Nat.le_succ n) (hw3 b (by omega))
  intro p l e R s m args below meth c D ca sv A n0 k0 ad0 Qf hC hn hk hL hcc hss K ad H locs la hR
  dsimp only at hn hk hL hcc hss
  obtain ⟨hP, hD, hS, hl, had⟩ := hR
  obtain ⟨hx, hb, hml, hr, hown, hts, hlk, hK, hN, hZ, hA, hnm, hfr, hlo⟩ := hC
  rw [hM] at hb hml hr hown hnm hfr hlo
  dsimp only at hb hml hr hown hnm hfr hlo hP hD hl ⊢
  have hup : ∀ q a, a < n → va_up ad n q a = ad a := fun q a ha => by simp [va_up, Nat.ne_of_lt ha]
  have hmap : fs.map (gv sv ad) = fs := by
    conv => rhs; rw [← List.map_id fs]
    exact List.map_congr_left fun v hv => by rcases hf0 v hv with rfl | rfl <;> rfl
  refine va_new (ci := ci) (fs := fs) hx hb hts hin ty0 hty hown (hts _ hw0) (hts _ hw4) (hts _ hw5) hK hP hD hS hA hc hfs (by omega) (by omega) hd (fun qq H1 q1 q2 q3 => ?_)
  · have e9 : gc ca sv ad (.inr (ci, fs)) = .inr (ci, fs) := by show Sum.inr _ = _; rw [hmap]
    rw [← e9] at q1 q2
    have K := K (va_up ad n qq) H1 locs la ⟨gL_push (ca := ca) (sv := sv) (ad := ad) hw3 hcell qq ▸ q1, gL_push (ca := ca) (sv := sv) (ad := ad) hw3 hcell qq ▸ q2, q3, hl.eq hw1 (hup qq), fun a ha => (hup qq a (by omega)).trans (had a ha)⟩
    dsimp only at K
    rw [show n + 1 - n0 = n - n0 + 1 by omega, show k + N - k0 = k - k0 + N by omega, List.map_cons, gvs_eq (fun u hu => hw2 u hu) (hup qq)] at K
    have e0 : gv sv (va_up ad n qq) (.ref n) = .ref qq := by simp [gv, va_up]
    rw [e0] at K
    exact K
theorem ok_newI (hM : mt i = (y, B, L, r, O, lv)) (hd : decode B pc = .ok (.newarray .int, 2)) (hw0 : Cond.arrayClass .int ∈ gWs) : gOk mt X i pc (oNewA .int (pc + 2)) := by
  intro S q S' ho hw
  obtain ⟨ls, st, n, k, w⟩ := S
  obtain ⟨hw1, hw2, hw3⟩ := hw
  dsimp only at hw1 hw2 hw3
  simp only [oNewA] at ho
  split at ho
  · rename_i z rr
    split at ho
    · rename_i hz
      cases ho
      have hcell : gcok n (.inl (.int, z.toNatClampNeg, .inl (fun _ => 0))) := trivial
      refine ⟨⟨fun u hu => gok_le (Nat.le_succ n) (hw1 u hu), fun u hu => ?_, ?_⟩, Nat.le_succ n, Nat.le_add_right _ _, rfl, ?_⟩
      · rcases List.mem_cons.mp hu with rfl | h
        · exact gok_ref.mpr (Nat.lt_succ_self n)
        · exact gok_le (Nat.le_succ n) (hw2 u (List.mem_cons_of_mem _ h))
      · intro b hb
        dsimp only at hb ⊢
        by_cases hq : b = n
        · subst hq
          simp only [va_up, if_true]
          exact gcok_le (Nat.le_succ _) hcell
        · simp only [va_up, if_neg hq]
          exact gcok_le (Nat.le_succ n) (hw3 b (by omega))
      intro p l e R s m args below meth c D ca sv A n0 k0 ad0 Qf hC hn hk hL hcc hss K ad H locs la hR
      dsimp only at hn hk hL hcc hss
      obtain ⟨hP, hD, hS, hl, had⟩ := hR
      obtain ⟨hx, hb, hml, hr, hown, hts, hlk, hK, hN, hZ, hA, hnm, hfr, hlo⟩ := hC
      rw [hM] at hb hml hr hown hnm hfr hlo
      dsimp only at hb hml hr hown hnm hfr hlo hP hD hl ⊢
      have hup : ∀ q a, a < n → va_up ad n q a = ad a := fun q a ha => by simp [va_up, Nat.ne_of_lt ha]
      have z0 : ¬ z < 0 := Int32.not_lt.mpr hz.1
      have z1 : z.toNatClampNeg ≤ 1000 := by
        have h1 : z.toInt ≤ 1000 := by simpa using Int32.le_iff_toInt_le.mp hz.2
        show z.toInt.toNat ≤ 1000
        omega
      refine va_newa (atype := .int) (a0 := (z.toNatClampNeg, .inl (fun _ => 0))) hx hb (hts _ hw0) (ty := .int) rfl hK hP hD hS hA (fun cA => rfl) z0 rfl (by show z.toNatClampNeg * 4 ≤ _; omega) (by omega) (by omega) hd (fun qq cA H1 q0 q1 q2 q3 => ?_)
      · have e8 : cA = ca .int := by
          have f1 : s.vm.findClass ("[" ++ (FieldType.toString .int)) = some cA := (q0.2 3 (cA, .int) rfl).2
          have f2 : s.vm.findClass ("[" ++ (FieldType.toString .int)) = some (ca .int) := (hK.2 0 (ca .int, .int) rfl).2
          exact Option.some.inj (f1.symm.trans f2)
        subst e8
        have K := K (va_up ad n qq) H1 locs la ⟨gL_push (ca := ca) (sv := sv) (ad := ad) hw3 hcell qq ▸ q1, gL_push (ca := ca) (sv := sv) (ad := ad) hw3 hcell qq ▸ q2, q3, hl.eq hw1 (hup qq), fun a ha => (hup qq a (by omega)).trans (had a ha)⟩
        dsimp only at K
        rw [show n + 1 - n0 = n - n0 + 1 by omega, show k + z.toNatClampNeg - k0 = k - k0 + z.toNatClampNeg by omega, List.map_cons, gvs_eq (fun u hu => hw2 u (List.mem_cons_of_mem _ hu)) (hup qq)] at K
        have e0 : gv sv (va_up ad n qq) (.ref n) = .ref qq := by simp [gv, va_up]
        rw [e0] at K
        exact K
    · cases ho
  · cases ho
theorem ok_newZ (hM : mt i = (y, B, L, r, O, lv)) (hd : decode B pc = .ok (.newarray .boolean, 2)) (hw0 : Cond.arrayClass .boolean ∈ gWs) : gOk mt X i pc (oNewA .boolean (pc + 2)) := by
  intro S q S' ho hw
  obtain ⟨ls, st, n, k, w⟩ := S
  obtain ⟨hw1, hw2, hw3⟩ := hw
  dsimp only at hw1 hw2 hw3
  simp only [oNewA] at ho
  split at ho
  · rename_i z rr
    split at ho
    · rename_i hz
      cases ho
      have hcell : gcok n (.inl (.boolean, z.toNatClampNeg, .inl (fun _ => 0))) := trivial
      refine ⟨⟨fun u hu => gok_le (Nat.le_succ n) (hw1 u hu), fun u hu => ?_, ?_⟩, Nat.le_succ n, Nat.le_add_right _ _, rfl, ?_⟩
      · rcases List.mem_cons.mp hu with rfl | h
        · exact gok_ref.mpr (Nat.lt_succ_self n)
        · exact gok_le (Nat.le_succ n) (hw2 u (List.mem_cons_of_mem _ h))
      · intro b hb
        dsimp only at hb ⊢
        by_cases hq : b = n
        · subst hq
          simp only [va_up, if_true]
          exact gcok_le (Nat.le_succ _) hcell
        · simp only [va_up, if_neg hq]
          exact gcok_le (Nat.le_succ n) (hw3 b (by omega))
      intro p l e R s m args below meth c D ca sv A n0 k0 ad0 Qf hC hn hk hL hcc hss K ad H locs la hR
      dsimp only at hn hk hL hcc hss
      obtain ⟨hP, hD, hS, hl, had⟩ := hR
      obtain ⟨hx, hb, hml, hr, hown, hts, hlk, hK, hN, hZ, hA, hnm, hfr, hlo⟩ := hC
      rw [hM] at hb hml hr hown hnm hfr hlo
      dsimp only at hb hml hr hown hnm hfr hlo hP hD hl ⊢
      have hup : ∀ q a, a < n → va_up ad n q a = ad a := fun q a ha => by simp [va_up, Nat.ne_of_lt ha]
      have z0 : ¬ z < 0 := Int32.not_lt.mpr hz.1
      have z1 : z.toNatClampNeg ≤ 1000 := by
        have h1 : z.toInt ≤ 1000 := by simpa using Int32.le_iff_toInt_le.mp hz.2
        show z.toInt.toNat ≤ 1000
        omega
      refine va_newa (atype := .boolean) (a0 := (z.toNatClampNeg, .inl (fun _ => 0))) hx hb (hts _ hw0) (ty := .boolean) rfl hK hP hD hS hA (fun cA => rfl) z0 rfl (by show z.toNatClampNeg * 1 ≤ _; omega) (by omega) (by omega) hd (fun qq cA H1 q0 q1 q2 q3 => ?_)
      · have e8 : cA = ca .boolean := by
          have f1 : s.vm.findClass ("[" ++ (FieldType.toString .boolean)) = some cA := (q0.2 3 (cA, .boolean) rfl).2
          have f2 : s.vm.findClass ("[" ++ (FieldType.toString .boolean)) = some (ca .boolean) := (hK.2 1 (ca .boolean, .boolean) rfl).2
          exact Option.some.inj (f1.symm.trans f2)
        subst e8
        have K := K (va_up ad n qq) H1 locs la ⟨gL_push (ca := ca) (sv := sv) (ad := ad) hw3 hcell qq ▸ q1, gL_push (ca := ca) (sv := sv) (ad := ad) hw3 hcell qq ▸ q2, q3, hl.eq hw1 (hup qq), fun a ha => (hup qq a (by omega)).trans (had a ha)⟩
        dsimp only at K
        rw [show n + 1 - n0 = n - n0 + 1 by omega, show k + z.toNatClampNeg - k0 = k - k0 + z.toNatClampNeg by omega, List.map_cons, gvs_eq (fun u hu => hw2 u (List.mem_cons_of_mem _ hu)) (hup qq)] at K
        have e0 : gv sv (va_up ad n qq) (.ref n) = .ref qq := by simp [gv, va_up]
        rw [e0] at K
        exact K
    · cases ho
  · cases ho
theorem ok_anew (hM : mt i = (y, B, L, r, O, lv)) {index : Nat} (hd : decode B pc = .ok (.anewarray index, 3)) (hw0 : Cond.classLink O index "CoinTrack$Track" ∈ gWs) : gOk mt X i pc (oANew (.object "CoinTrack$Track") (pc + 3)) := by
  intro S q S' ho hw
  obtain ⟨ls, st, n, k, w⟩ := S
  obtain ⟨hw1, hw2, hw3⟩ := hw
  dsimp only at hw1 hw2 hw3
  simp only [oANew] at ho
  split at ho
  · rename_i z rr
    split at ho
    · rename_i hz
      cases ho
      have hcell : gcok n (.inl (.object "CoinTrack$Track", z.toNatClampNeg, .inr (.inr (.inr (.inr (fun _ => none)))))) := fun j a h => by cases h
      refine ⟨⟨fun u hu => gok_le (Nat.le_succ n) (hw1 u hu), fun u hu => ?_, ?_⟩, Nat.le_succ n, Nat.le_add_right _ _, rfl, ?_⟩
      · rcases List.mem_cons.mp hu with rfl | h
        · exact gok_ref.mpr (Nat.lt_succ_self n)
        · exact gok_le (Nat.le_succ n) (hw2 u (List.mem_cons_of_mem _ h))
      · intro b hb
        dsimp only at hb ⊢
        by_cases hq : b = n
        · subst hq
          simp only [va_up, if_true]
          exact gcok_le (Nat.le_succ _) hcell
        · simp only [va_up, if_neg hq]
          exact gcok_le (Nat.le_succ n) (hw3 b (by omega))
      intro p l e R s m args below meth c D ca sv A n0 k0 ad0 Qf hC hn hk hL hcc hss K ad H locs la hR
      dsimp only at hn hk hL hcc hss
      obtain ⟨hP, hD, hS, hl, had⟩ := hR
      obtain ⟨hx, hb, hml, hr, hown, hts, hlk, hK, hN, hZ, hA, hnm, hfr, hlo⟩ := hC
      rw [hM] at hb hml hr hown hnm hfr hlo
      dsimp only at hb hml hr hown hnm hfr hlo hP hD hl ⊢
      have hup : ∀ q a, a < n → va_up ad n q a = ad a := fun q a ha => by simp [va_up, Nat.ne_of_lt ha]
      have z0 : ¬ z < 0 := Int32.not_lt.mpr hz.1
      have z1 : z.toNatClampNeg ≤ 1000 := by
        have h1 : z.toInt ≤ 1000 := by simpa using Int32.le_iff_toInt_le.mp hz.2
        show z.toInt.toNat ≤ 1000
        omega
      refine va_newq (C := "CoinTrack$Track") hx hb hown (hts _ hw0) hN.2 hK hP hD hS hA z0 rfl (by omega) (by omega) (by omega) hd (fun qq cA H1 q0 q1 q2 q3 => ?_)
      · have e8 : cA = ca (.object "CoinTrack$Track") := by
          obtain ⟨_, _, _, _, _, f1⟩ := (q0.2 3 (cA, .object "CoinTrack$Track") rfl).2
          obtain ⟨_, _, _, _, _, f2⟩ := (hK.2 2 (ca (.object "CoinTrack$Track"), .object "CoinTrack$Track") rfl).2
          exact Option.some.inj (f1.symm.trans f2)
        subst e8
        have K := K (va_up ad n qq) H1 locs la ⟨gL_push (ca := ca) (sv := sv) (ad := ad) hw3 hcell qq ▸ q1, gL_push (ca := ca) (sv := sv) (ad := ad) hw3 hcell qq ▸ q2, q3, hl.eq hw1 (hup qq), fun a ha => (hup qq a (by omega)).trans (had a ha)⟩
        dsimp only at K
        rw [show n + 1 - n0 = n - n0 + 1 by omega, show k + z.toNatClampNeg - k0 = k - k0 + z.toNatClampNeg by omega, List.map_cons, gvs_eq (fun u hu => hw2 u (List.mem_cons_of_mem _ hu)) (hup qq)] at K
        have e0 : gv sv (va_up ad n qq) (.ref n) = .ref qq := by simp [gv, va_up]
        rw [e0] at K
        exact K
    · cases ho
  · cases ho
theorem ok_kVal (hM : mt i = (y, B, L, r, O, lv)) {index : Nat} (hd : decode B pc = .ok (.getfield index, 3)) (hw0 : Cond.fieldLink O index "java/lang/String" "value" "[B" ∈ gWs) : gOk mt X i pc (oKVal (pc + 3)) := by
  refine ok_pure ?_
  intro S q S' ho hw
  obtain ⟨ls, st, n, k, w⟩ := S
  obtain ⟨hw1, hw2, hw3⟩ := hw
  dsimp only at hw1 hw2 hw3
  simp only [oKVal] at ho
  split at ho
  · rename_i j rr
    split at ho
    
    · rename_i hc0
      cases ho
      refine ⟨rfl, rfl, fun u hu => ?_, ?_⟩
      · rcases List.mem_cons.mp hu with rfl | h
        · exact gok_ret
        · exact hw2 u (List.mem_cons_of_mem _ (h))
      · intro p l e R s m args below meth c D ca sv A Qf cells slots ad H locs la hC hc hs hL hP hD hS hl K
        obtain ⟨hx, hb, hml, hr, hown, hts, hlk, hK, hN, hZ, hA, hnm, hfr, hlo⟩ := hC
        rw [hM] at hb hml hr hown hnm hfr hlo
        dsimp only at hb hml hr hown hnm hfr hlo
        obtain ⟨adK, adV, h5, h6, h7⟩ := hZ.2.1
        have e1 : gv sv ad (.retAddr (j + 1)) = .ref (adK j) := (h5 j hc0).1
        have e2 : gv sv ad (.retAddr (j + 11)) = .ref (adV j) := (h5 j hc0).2
        simp only [List.map_cons, e1, e2] at K ⊢
        exact vk_getf hx hb (h6.1 j hc0).2.2.1 hS hown (hts _ hw0) (fun _ h9 => h9) hd K
    · cases ho
  · cases ho
theorem ok_kCod (hM : mt i = (y, B, L, r, O, lv)) {index : Nat} (hd : decode B pc = .ok (.getfield index, 3)) (hw0 : Cond.fieldLink O index "java/lang/String" "coder" "B" ∈ gWs) : gOk mt X i pc (oKCod (pc + 3)) := by
  refine ok_pure ?_
  intro S q S' ho hw
  obtain ⟨ls, st, n, k, w⟩ := S
  obtain ⟨hw1, hw2, hw3⟩ := hw
  dsimp only at hw1 hw2 hw3
  simp only [oKCod] at ho
  split at ho
  · rename_i j rr
    split at ho
    
    · rename_i hc0
      cases ho
      refine ⟨rfl, rfl, fun u hu => ?_, ?_⟩
      · rcases List.mem_cons.mp hu with rfl | h
        · exact gok_int
        · exact hw2 u (List.mem_cons_of_mem _ (h))
      · intro p l e R s m args below meth c D ca sv A Qf cells slots ad H locs la hC hc hs hL hP hD hS hl K
        obtain ⟨hx, hb, hml, hr, hown, hts, hlk, hK, hN, hZ, hA, hnm, hfr, hlo⟩ := hC
        rw [hM] at hb hml hr hown hnm hfr hlo
        dsimp only at hb hml hr hown hnm hfr hlo
        obtain ⟨adK, adV, h5, h6, h7⟩ := hZ.2.1
        have e1 : gv sv ad (.retAddr (j + 1)) = .ref (adK j) := (h5 j hc0).1
        simp only [List.map_cons, e1] at K ⊢
        exact vk_getf hx hb (h6.1 j hc0).2.1 hS hown (hts _ hw0) (fun _ h9 => h9) hd K
    · cases ho
  · cases ho
theorem ok_kLen (hM : mt i = (y, B, L, r, O, lv)) (hd : decode B pc = .ok (.arraylength, 1)) : gOk mt X i pc (oKLen (pc + 1)) := by
  refine ok_pure ?_
  intro S q S' ho hw
  obtain ⟨ls, st, n, k, w⟩ := S
  obtain ⟨hw1, hw2, hw3⟩ := hw
  dsimp only at hw1 hw2 hw3
  simp only [oKLen] at ho
  split at ho
  · rename_i j rr
    split at ho
    
    · rename_i hc0
      cases ho
      refine ⟨rfl, rfl, fun u hu => ?_, ?_⟩
      · rcases List.mem_cons.mp hu with rfl | h
        · exact gok_int
        · exact hw2 u (List.mem_cons_of_mem _ (h))
      · intro p l e R s m args below meth c D ca sv A Qf cells slots ad H locs la hC hc hs hL hP hD hS hl K
        obtain ⟨hx, hb, hml, hr, hown, hts, hlk, hK, hN, hZ, hA, hnm, hfr, hlo⟩ := hC
        rw [hM] at hb hml hr hown hnm hfr hlo
        dsimp only at hb hml hr hown hnm hfr hlo
        obtain ⟨adK, adV, h5, h6, h7⟩ := hZ.2.1
        have e2 : gv sv ad (.retAddr (j + 11)) = .ref (adV j) := (h5 j hc0).2
        simp only [List.map_cons, e2] at K ⊢
        exact va_tlen hx hb (h6.1 j hc0).2.2.2 hS rfl hd K
    · cases ho
  · cases ho
theorem ok_kLd (hM : mt i = (y, B, L, r, O, lv)) (hd : decode B pc = .ok (.baload, 1)) : gOk mt X i pc (oKLd (pc + 1)) := by
  refine ok_pure ?_
  intro S q S' ho hw
  obtain ⟨ls, st, n, k, w⟩ := S
  obtain ⟨hw1, hw2, hw3⟩ := hw
  dsimp only at hw1 hw2 hw3
  simp only [oKLd] at ho
  split at ho
  · rename_i x j rr
    split at ho
    
    · rename_i hc0
      cases ho
      refine ⟨rfl, rfl, fun u hu => ?_, ?_⟩
      · rcases List.mem_cons.mp hu with rfl | h
        · exact gok_int
        · exact hw2 u (List.mem_cons_of_mem _ (List.mem_cons_of_mem _ (h)))
      · intro p l e R s m args below meth c D ca sv A Qf cells slots ad H locs la hC hc hs hL hP hD hS hl K
        obtain ⟨hx, hb, hml, hr, hown, hts, hlk, hK, hN, hZ, hA, hnm, hfr, hlo⟩ := hC
        rw [hM] at hb hml hr hown hnm hfr hlo
        dsimp only at hb hml hr hown hnm hfr hlo
        obtain ⟨adK, adV, h5, h6, h7⟩ := hZ.2.1
        have e2 : gv sv ad (.retAddr (j + 11)) = .ref (adV j) := (h5 j hc0.1).2
        simp only [List.map_cons, e2] at K ⊢
        exact va_tb hx hb (h6.1 j hc0.1).2.2.2 hS hc0.2 rfl hd K
    · cases ho
  · cases ho
end OKS
