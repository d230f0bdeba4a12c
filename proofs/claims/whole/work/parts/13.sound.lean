/-! THE SMALL MACHINE IS SOUND: what it reaches, the machine reaches -/
def gWj (M : gM) : List Cond := Cond.code M.1 M.2.1 M.2.2.1 M.2.2.2.1 :: gWs
def gcn (c : Nat) : String := if c = 999 then "java/lang/String" else (vwCl.getD c ("", TX0, 0)).1
/-- the receiver of a call -/
def gRecv (rc : Nat) (As : List Value) (H : Heap) (s : State) : Prop := match rc with
  | 0 => True
  | c + 1 => ∃ (b : Nat) (As' : List Value), As = .ref b :: As' ∧ (c = 1999 ∨ ∃ cell : Cell, H[b]? = some cell ∧ cell.vm.isStatics = false ∧ s.vm.findClass (gcn c) = some cell.cls)
abbrev grm (M : gM) (mc ms : Nat) : Room := { frames := M.2.2.2.2.2, cells := mc, slots := ms, locals := 35 * M.2.2.2.2.2 }
def gCallOk (mt : Nat → gM) (i pc j na rc : Nat) : Prop :=
  (mt j).2.2.2.2.2 < (mt i).2.2.2.2.2 ∧ na ≤ (mt j).2.2.1 ∧ plainName (mt j).1.cls = true ∧ (mt j).2.2.2.2.1 = (mt j).1.cls ∧
  ∀ (X : gX) (p : Program) (l : Launch) (e : Env) (R : Room) (s : State) (m : MethodId) (args : Array Value) (below : List Frame) (meth : Method) (c : Code) (D : va_G) (ca : FieldType → ClassId) (sv : Nat → Value) (A : Nat → Prop), gC mt X i p R s m args meth c D ca sv A →
  ∀ (As rest : List Value) (la : Array Slot) (H : Heap) (locs : List Loc) (cells slots mc ms : Nat) (Pc : Array Value → State → Prop) (Qc : Array Value → State → Outcome → State → Prop) (free : Addr → Prop),
    Met l (mt j).1 (gWj (mt j)) (grm (mt j) mc ms) Pc Qc mc ms free → FrameBlind Pc → (∀ U : State, U.heap = H → s.WarmedH U.vm → Pc As.toArray U) → gRecv rc As H s → As.length = na → la.size = (mt i).2.2.1 → (rest.map fun v => v.category).sum ≤ 8 → (cells + mc ≤ R.cells ∧ slots + ms ≤ R.slots) →
    va_Run p l e R s m args below meth c H locs cells slots mc ms (F0 m pc la (As.reverse ++ rest)) rest (Qc As.toArray) free
theorem goodG {ws : List Cond} (h : ∀ w ∈ ws, w ∈ gWs) : GoodIn gWs ws := fun w hw => gWs_good w (h w hw)
section OKC
variable {mt : Nat → gM} {i pc j : Nat} {y y' : MethodName} {B B' : ByteArray} {L L' lv lv' : Nat} {r r' : Option FieldType} {O O' : String} {index na : Nat}
theorem okc_V {c : Nat} (hM : mt i = (y, B, L, r, O, lv)) (hJ : mt j = (y', B', L', r', O', lv')) (hd : decode B pc = .ok (.invokevirtual index, 3)) (hlv : lv' < lv) (hL : L' ≤ 16) (hna : na + 1 ≤ L') (hpl : plainName y'.cls = true) (hO : O' = y'.cls) (hcn : y'.cls = gcn c) (hc9 : c ≠ 1999)
    (hdd : y'.cls ≠ "java/lang/invoke/MethodHandle" ∧ y'.cls ≠ "java/lang/invoke/VarHandle" ∧ (parseMethodDescriptor y'.desc).map (fun d => d.parameters.length) = some na)
    (w1 : Cond.methodLink O index y' ∈ gWs) (w2 : Cond.instanceMethod y' ∈ gWs) (w3 : Cond.selects (gcn c) y' y' ∈ gWs) (w4 : Cond.initialized (gcn c) ∈ gWs) (w5 : Cond.code y' B' L' r' ∈ gWs) : gCallOk mt i pc j (na + 1) (c + 1) := by
  refine ⟨by rw [hM, hJ]; exact hlv, by rw [hJ]; exact hna, by rw [hJ]; exact hpl, by rw [hJ]; exact hO, ?_⟩
  intro X p l e R s m args below meth c' D ca sv A hC As rest la H locs cells slots mc ms Pc Qc free hMet hbl hPc hrc hn hla hrest hf
  obtain ⟨hx, hb, hml, hr, hown, hts, hlk, hK, hN, hZ, hA, hnm, hfr, hlo⟩ := hC
  rw [hM] at hb hml hr hown hnm hfr hlo hla
  rw [hJ] at hMet
  dsimp only at hb hml hr hown hnm hfr hlo hla hMet
  obtain ⟨b, As', rfl, hcase⟩ := hrc
  rcases hcase with h9 | ⟨cell, h1, h2, h3⟩
  · exact absurd h9 hc9
  have hgood : GoodIn gWs (wsV O index (gcn c) y' (Cond.code y' B' L' r' :: gWs)) := goodG (fun w hw => by
    unfold wsV at hw
    simp only [List.cons_append, List.nil_append, List.mem_cons] at hw
    rcases hw with rfl | rfl | rfl | rfl | rfl | h
    · exact w1
    · exact w2
    · exact w3
    · exact w4
    · exact w5
    · exact h)
  exact va_runV (As := As') (rest := rest) (b := b) (C := gcn c) ⟨hx, hb, hml, hown, hts⟩ hMet (cwV na hts hgood rfl rfl rfl ⟨hcn, hdd⟩ ⟨by show lv' + 1 ≤ R.frames; omega, by show 8 + (L' + 11) + 35 * lv' ≤ R.locals; omega⟩) ⟨hbl, ⟨cell, h1, h2, h3⟩, hPc⟩ rfl (by simpa using hn) hla (by simp) (lv_room hrest) hd hf
theorem okc_S (hM : mt i = (y, B, L, r, O, lv)) (hJ : mt j = (y', B', L', r', O', lv')) (hd : decode B pc = .ok (.invokestatic index, 3)) (hlv : lv' < lv) (hL : L' ≤ 16) (hna : na ≤ L') (hpl : plainName y'.cls = true) (hO : O' = y'.cls)
    (hdd : y'.cls ≠ "java/lang/invoke/MethodHandle" ∧ y'.cls ≠ "java/lang/invoke/VarHandle" ∧ (parseMethodDescriptor y'.desc).map (fun d => d.parameters.length) = some na)
    (w1 : Cond.methodLink O index y' ∈ gWs) (w2 : Cond.static y' ∈ gWs) (w4 : Cond.initialized y'.cls ∈ gWs) (w5 : Cond.code y' B' L' r' ∈ gWs) : gCallOk mt i pc j na 0 := by
  refine ⟨by rw [hM, hJ]; exact hlv, by rw [hJ]; exact hna, by rw [hJ]; exact hpl, by rw [hJ]; exact hO, ?_⟩
  intro X p l e R s m args below meth c' D ca sv A hC As rest la H locs cells slots mc ms Pc Qc free hMet hbl hPc hrc hn hla hrest hf
  obtain ⟨hx, hb, hml, hr, hown, hts, hlk, hK, hN, hZ, hA, hnm, hfr, hlo⟩ := hC
  rw [hM] at hb hml hr hown hnm hfr hlo hla
  rw [hJ] at hMet
  dsimp only at hb hml hr hown hnm hfr hlo hla hMet
  have hgood : GoodIn gWs (va_wsS O index y' (Cond.code y' B' L' r' :: gWs)) := goodG (fun w hw => by
    unfold va_wsS at hw
    simp only [List.cons_append, List.nil_append, List.mem_cons] at hw
    rcases hw with rfl | rfl | rfl | rfl | h
    · exact w1
    · exact w2
    · exact w4
    · exact w5
    · exact h)
  exact va_runS (As := As) (rest := rest) ⟨hx, hb, hml, hown, hts⟩ hMet (va_cwS na hts hgood rfl rfl rfl hdd ⟨by show lv' + 1 ≤ R.frames; omega, by show 8 + (L' + 11) + 35 * lv' ≤ R.locals; omega⟩) ⟨hbl, hPc⟩ rfl hn hla rfl (lv_room hrest) hd hf
theorem okc_I (hM : mt i = (y, B, L, r, O, lv)) (hJ : mt j = (y', B', L', none, O', lv')) (hd : decode B pc = .ok (.invokespecial index, 3)) (hlv : lv' < lv) (hL : L' ≤ 16) (hna : na + 1 ≤ L') (hpl : plainName y'.cls = true) (hO : O' = y'.cls) (hin : y'.name = "<init>")
    (hdd : y'.cls ≠ "java/lang/invoke/MethodHandle" ∧ y'.cls ≠ "java/lang/invoke/VarHandle" ∧ (parseMethodDescriptor y'.desc).map (fun d => d.parameters.length) = some na)
    (w1 : Cond.methodLink O index y' ∈ gWs) (w2 : Cond.instanceMethod y' ∈ gWs) (w4 : Cond.initialized y'.cls ∈ gWs) (w5 : Cond.code y' B' L' none ∈ gWs) : gCallOk mt i pc j (na + 1) 2000 := by
  refine ⟨by rw [hM, hJ]; exact hlv, by rw [hJ]; exact hna, by rw [hJ]; exact hpl, by rw [hJ]; exact hO, ?_⟩
  intro X p l e R s m args below meth c' D ca sv A hC As rest la H locs cells slots mc ms Pc Qc free hMet hbl hPc hrc hn hla hrest hf
  obtain ⟨hx, hb, hml, hr, hown, hts, hlk, hK, hN, hZ, hA, hnm, hfr, hlo⟩ := hC
  rw [hM] at hb hml hr hown hnm hfr hlo hla
  rw [hJ] at hMet
  dsimp only at hb hml hr hown hnm hfr hlo hla hMet
  obtain ⟨b, As', rfl, -⟩ := hrc
  have hgood : GoodIn gWs (Cond.code y' B' L' none :: gWs) := goodG (fun w hw => by
    simp only [List.mem_cons] at hw
    rcases hw with rfl | h
    · exact w5
    · exact h)
  exact va_runI (As := As') (rest := rest) (b := b) ⟨hx, hb, hml, hown, hts⟩ hMet (cwI na hts hgood rfl rfl rfl (hts _ w4) (hts _ w1) (hts _ w2) hin hdd ⟨by show lv' + 1 ≤ R.frames; omega, by show 8 + (L' + 11) + 35 * lv' ≤ R.locals; omega⟩) ⟨hbl, hPc⟩ rfl (by simpa using hn) hla (by simp) (lv_room hrest) hd hf
theorem okc_SN {host : String} (hM : mt i = (y, B, L, r, O, lv)) (hJ : mt j = (y', B', L', r', O', lv')) (hd : decode B pc = .ok (.invokestatic index, 3)) (hlv : lv' < lv) (hL : L' ≤ 16) (hna : na ≤ L') (hpl : plainName y'.cls = true) (hO : O' = y'.cls)
    (hdd : y'.cls ≠ "java/lang/invoke/MethodHandle" ∧ y'.cls ≠ "java/lang/invoke/VarHandle" ∧ (parseMethodDescriptor y'.desc).map (fun d => d.parameters.length) = some na)
    (w1 : (O, index, y', host) ∈ gNl) (w2 : Cond.static y' ∈ gWs) (w4 : Cond.initialized y'.cls ∈ gWs) (w5 : Cond.code y' B' L' r' ∈ gWs) : gCallOk mt i pc j na 0 := by
  refine ⟨by rw [hM, hJ]; exact hlv, by rw [hJ]; exact hna, by rw [hJ]; exact hpl, by rw [hJ]; exact hO, ?_⟩
  intro X p l e R s m args below meth c' D ca sv A hC As rest la H locs cells slots mc ms Pc Qc free hMet hbl hPc hrc hn hla hrest hf
  obtain ⟨hx, hb, hml, hr, hown, hts, hlk, hK, hN, hZ, hA, hnm, hfr, hlo⟩ := hC
  rw [hM] at hb hml hr hown hnm hfr hlo hla
  rw [hJ] at hMet
  dsimp only at hb hml hr hown hnm hfr hlo hla hMet
  have hgood : GoodIn gWs (Cond.code y' B' L' r' :: gWs) := goodG (fun w hw => by
    simp only [List.mem_cons] at hw
    rcases hw with rfl | h
    · exact w5
    · exact h)
  exact va_runSN (As := As) (rest := rest) ⟨hx, hb, hml, hown, hts⟩ hMet ⟨va_cnB na hts hgood rfl rfl rfl (hN.1 _ w1) (hts _ w4) hdd ⟨by show lv' + 1 ≤ R.frames; omega, by show 8 + (L' + 11) + 35 * lv' ≤ R.locals; omega⟩, hts _ w2, trivial⟩ ⟨hbl, hPc⟩ rfl hn hla rfl (lv_room hrest) hd hf
theorem okc_IN {host : String} (hM : mt i = (y, B, L, r, O, lv)) (hJ : mt j = (y', B', L', none, O', lv')) (hd : decode B pc = .ok (.invokespecial index, 3)) (hlv : lv' < lv) (hL : L' ≤ 16) (hna : na + 1 ≤ L') (hpl : plainName y'.cls = true) (hO : O' = y'.cls) (hin : y'.name = "<init>")
    (hdd : y'.cls ≠ "java/lang/invoke/MethodHandle" ∧ y'.cls ≠ "java/lang/invoke/VarHandle" ∧ (parseMethodDescriptor y'.desc).map (fun d => d.parameters.length) = some na)
    (w1 : (O, index, y', host) ∈ gNl) (w2 : Cond.instanceMethod y' ∈ gWs) (w4 : Cond.initialized y'.cls ∈ gWs) (w5 : Cond.code y' B' L' none ∈ gWs) : gCallOk mt i pc j (na + 1) 2000 := by
  refine ⟨by rw [hM, hJ]; exact hlv, by rw [hJ]; exact hna, by rw [hJ]; exact hpl, by rw [hJ]; exact hO, ?_⟩
  intro X p l e R s m args below meth c' D ca sv A hC As rest la H locs cells slots mc ms Pc Qc free hMet hbl hPc hrc hn hla hrest hf
  obtain ⟨hx, hb, hml, hr, hown, hts, hlk, hK, hN, hZ, hA, hnm, hfr, hlo⟩ := hC
  rw [hM] at hb hml hr hown hnm hfr hlo hla
  rw [hJ] at hMet
  dsimp only at hb hml hr hown hnm hfr hlo hla hMet
  obtain ⟨b, As', rfl, -⟩ := hrc
  have hgood : GoodIn gWs (Cond.code y' B' L' none :: gWs) := goodG (fun w hw => by
    simp only [List.mem_cons] at hw
    rcases hw with rfl | h
    · exact w5
    · exact h)
  exact va_runIN (As := As') (rest := rest) (b := b) ⟨hx, hb, hml, hown, hts⟩ hMet ⟨va_cnB na hts hgood rfl rfl rfl (hN.1 _ w1) (hts _ w4) hdd ⟨by show lv' + 1 ≤ R.frames; omega, by show 8 + (L' + 11) + 35 * lv' ≤ R.locals; omega⟩, hin, hts _ w2⟩ ⟨hbl, hPc⟩ rfl (by simpa using hn) hla (by simp) (lv_room hrest) hd hf
end OKC
/-- an entry of the table is as the machine has it -/
def gAt (mt : Nat → gM) (X : gX) (i pc : Nat) : gO → Prop
  | .inl o => gOk mt X i pc o
  | .inr (.inl (j, na, mx, rc, q)) => q = pc + 3 ∧ mx = (mt j).2.2.1 ∧ gCallOk mt i pc j na rc
  | .inr (.inr none) => (mt i).2.2.2.1 = none ∧ decode (mt i).2.1 pc = .ok (.return_, 1)
  | .inr (.inr (some ty)) => (mt i).2.2.2.1 = some ty ∧ decode (mt i).2.1 pc = .ok (.ireturn, 1)
def gPre (X : gX) (D : va_G) (ca : FieldType → ClassId) (sv : Nat → Value) (ad : Nat → Nat) (sz n : Nat) (w : gH) (U : State) : Prop :=
  U.heap.size = sz ∧ va_P D vwCl (gL ca sv ad n w) U.heap ∧ va_K D vwCl (gTy ca) U ∧ va_D (fun _ => True) (gL ca sv ad n w) ∧ gNst U ∧ gZ X sv (va_A (gL ca sv ad n w) sz) U U.heap
def gQc (D : va_G) (ca : FieldType → ClassId) (sv : Nat → Value) (ad : Nat → Nat) (sz n : Nat) (w : gH) (v : Option Value) (n1 : Nat) (w1 : gH) : Array Value → State → Outcome → State → Prop := fun _ st oc t =>
  (∃ ad' : Nat → Nat, (∀ a, a < n → ad' a = ad a) ∧ oc = .returned (v.map (gv sv ad')) ∧ va_P D vwCl (gL ca sv ad' n1 w1) t.heap ∧ va_D (va_A (gL ca sv ad n w) sz) (gL ca sv ad' n1 w1)) ∧ va_F (va_A (gL ca sv ad n w) sz) st t
theorem gNst.same {u U : State} (h : u.vm = U.vm) (hN : gNst u) : gNst U := ⟨fun q hq => va_Nw.same rfl h (hN.1 q hq), va_AO.moved (h ▸ Vm.Alike.refl u.vm) hN.2⟩
theorem gZ.same {X : gX} {sv : Nat → Value} {A : Nat → Prop} {u U : State} (hv : U.vm = u.vm) (hh : U.heap = u.heap) (h : gZ X sv A u u.heap) : gZ X sv A U U.heap := by
  obtain ⟨⟨b, h1, h2, h3, h4⟩, ⟨adK, adV, h5, h6, h7⟩, h8, h9, h10⟩ := h
  have hal : u.vm.Alike U.vm := hv ▸ Vm.Alike.refl u.vm
  rw [hh]
  exact ⟨⟨b, h1, h2.moved hal, h3, h4⟩, ⟨adK, adV, h5, h6.moved hal, fun j hj => (h7 j hj).same hv⟩, h8.moved hal, h9.moved hal, h10⟩
theorem gPre_blind {X : gX} {D : va_G} {ca : FieldType → ClassId} {sv : Nat → Value} {ad : Nat → Nat} {sz n : Nat} {w : gH} {As : List Value} : FrameBlind (va_Pc As (gPre X D ca sv ad sz n w)) := by
  intro a U g mk q
  obtain ⟨q0, q1, qP, qK, qD, qN, qZ⟩ := q
  exact ⟨q0, q1, qP, va_K.moved (u := U) (U := U.calling g mk a) (Vm.Alike.refl U.vm) qK, qD, gNst.same (u := U) (U := U.calling g mk a) rfl qN, gZ.same (u := U) (U := U.calling g mk a) rfl rfl qZ⟩
theorem glv_args {vs : List Value} (h : ∀ v ∈ vs, v.category = 1) : ∀ (i j : Nat) (v : Value), vs[j]? = some v → (i + j, v) ∈ lv_args i vs := by
  induction vs with
  | nil => intro i j v hv; simp at hv
  | cons u vs ih =>
    intro i j v hv
    have hu : u.category = 1 := h u List.mem_cons_self
    rw [lv_args, if_neg (by rw [hu]; decide)]
    cases j with
    | zero => simp at hv; subst hv; exact List.mem_cons_self
    | succ j =>
      have := ih (fun v hv => h v (List.mem_cons_of_mem _ hv)) (i + 1) j v (by simpa using hv)
      rw [show i + (j + 1) = i + 1 + j by omega]
      exact List.mem_cons_of_mem _ this
theorem lg_sl_len {vs : List Value} (h : ∀ v ∈ vs, v.category = 1) : (lg_sl vs).length = vs.length := by
  induction vs with
  | nil => rfl
  | cons u vs ih =>
    have hu : u.category = 1 := h u List.mem_cons_self
    have := ih (fun v hv => h v (List.mem_cons_of_mem _ hv))
    unfold lg_sl at this ⊢
    rw [List.flatMap_cons, List.length_append, this, if_neg (by rw [hu]; decide)]
    simp
    omega
theorem gcat_one {vs : List Value} (h : gcat vs = vs.length) : ∀ v ∈ vs, v.category = 1 := by
  have pos : ∀ v : Value, 1 ≤ v.category := fun v => by rcases lv_cat v with e | e <;> rw [e] <;> decide
  have ge : ∀ us : List Value, us.length ≤ gcat us := by
    intro us
    induction us with
    | nil => exact Nat.le_refl 0
    | cons u us ih =>
      have := pos u
      show us.length + 1 ≤ u.category + gcat us
      omega
  induction vs with
  | nil => intro v hv; cases hv
  | cons u vs ih =>
    have h1 : u.category + gcat vs = vs.length + 1 := h
    have h2 := ge vs
    have h3 := pos u
    intro v hv
    rcases List.mem_cons.mp hv with rfl | hv
    · omega
    · exact ih (by omega) v hv
theorem gLo_entry {sv : Nat → Value} {ad : Nat → Nat} (hsv : ∀ j, sv j = .null ∨ ∃ a, sv j = .ref a) {As : List Value} {L : Nat} (hc : gcat As = As.length) (hL : As.length ≤ L) :
    gLo sv ad ((lg_sl (As.map (gv sv ad)) ++ List.replicate (L - (lg_sl (As.map (gv sv ad))).length) Slot.unset).toArray) (As ++ List.replicate (L - As.length) .null) := by
  have h1 : ∀ v ∈ As.map (gv sv ad), v.category = 1 := by
    intro v hv
    obtain ⟨u, hu, rfl⟩ := List.mem_map.mp hv
    rw [gv_cat hsv]
    exact gcat_one hc u hu
  have h2 : (lg_sl (As.map (gv sv ad))).length = As.length := by rw [lg_sl_len h1, List.length_map]
  have h3 := lv_entry (As.map (gv sv ad)) (n := L) (by omega)
  refine ⟨by rw [h3.1]; simp; omega, h3.2.1, fun j v hj hv => ?_⟩
  by_cases hlt : j < As.length
  · rw [List.getElem?_append_left hlt] at hj
    refine h3.2.2 (j, gv sv ad v) ?_
    have := glv_args h1 0 j (gv sv ad v) (by rw [List.getElem?_map, hj]; rfl)
    rwa [Nat.zero_add] at this
  · rw [List.getElem?_append_right (by omega)] at hj
    have := List.mem_of_getElem? hj
    exact absurd (List.eq_of_mem_replicate this) hv
