/-! ONE STEP MORE: an int is thrown away -/
def oPop (q : Nat) : gS → Option (Nat × gS) := fun S => match S.2.1 with
  | .int _ :: r => some (q, S.1, r, S.2.2)
  | _ => none
theorem ev_pop {T : Nat → Nat → gO} {i pc q : Nat} {ls st : List Value} {n k : Nat} {w : gH} {Q : Option Value → Nat → Nat → gH → Prop} (h : T i pc = .inl (oPop q)) {x : Int32} : gEv T i pc ls (.int x :: st) n k w Q ↔ gEv T i q ls st n k w Q := ev_op h rfl
theorem ok_pop {mt : Nat → gM} {X : gX} {i pc : Nat} {y : MethodName} {B : ByteArray} {L lv : Nat} {r : Option FieldType} {O : String} (hM : mt i = (y, B, L, r, O, lv)) (hd : decode B pc = .ok (.pop, 1)) : gOk mt X i pc (oPop (pc + 1)) := by
  refine ok_pure ?_
  intro S q S' ho hw
  obtain ⟨ls, st, n, k, w⟩ := S
  obtain ⟨hw1, hw2, hw3⟩ := hw
  dsimp only at hw1 hw2 hw3
  simp only [oPop] at ho
  split at ho
  · rename_i v rr
    cases ho
    refine ⟨rfl, rfl, fun u hu => hw2 u (List.mem_cons_of_mem _ hu), ?_⟩
    intro p l e R s m args below meth c D ca sv A Qf cells slots ad H locs la hC hc hs hL hP hD hS hl K
    obtain ⟨hx, hb, hml, hr, hown, hts, hlk, hK, hN, hZ, hA, hnm, hfr, hlo⟩ := hC
    rw [hM] at hb hml hr hown hnm hfr hlo
    dsimp only at hb hml hr hown hnm hfr hlo
    exact lv_pop hx hb hd rfl K
  · cases ho
