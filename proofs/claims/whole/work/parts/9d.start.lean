def R_law : String := "CoinTrackLaw"
def lw_P (b : Addr) (xs : List Int32) (args : Array Value) (s : State) : Prop := args = #[.ref b] ∧ s.IntsAt b xs ∧ xs.length ≤ 2560 ∧ (Jvm.Cond.and given_1 narrow_1).before args s = true
def lw_Q (_ : Array Value) (s : State) (o : Outcome) (t : State) : Prop := o = .returned (some (.int 1)) ∧ Framed s o t [] 600000 7302250
def lw_Z (below : List Frame) (a : Array Value) (s : State) : State → Prop := fun t => ∃ o, t.status = .running ∧ Ended t below o ∧ lw_Q a s o t
/-- the law's own end, with 1 on the stack, nothing written that was there before, its room as the claim has it -/
theorem lw_ret {p : Program} {l : Launch} {e : Env} {s : State} {m : MethodId} {below : List Frame} {meth : Method} {c : Code} {b : Nat} (hx : p.tables.exec = Jvm.exec) (hb : c.code = code) (hr : meth.sig.returnType = ret) (hlocks : meth.locks = false) {pc : Nat} {H : Heap} {ls : Array Slot} (hdg : decode code pc = .ok (.ireturn, 1)) : W p l e room_1 s m #[Value.ref b] below meth c H [] 600000 7302250 (lw_Z below #[Value.ref b] s) (F0 m pc ls [.int 1]) := by
  intro T hT X
  obtain ⟨fs, hret, hrun, hended, hW, hframe⟩ := X.leave (v := some (.int 1)) (hlocks := hlocks) (fun h => by rw [hr] at h; cases h)
  have hmeth' : T.vm.method? m = some meth := X.method'
  refine ⟨T.setFrames fs, ?_, .returned (some (.int 1)), hrun, hended, rfl, ⟨_, rfl⟩, hW, hframe⟩
  jvm_step X.here [X.here.top, hx, hb, hdg, hmeth', hr, ret, narrow_b1]
  (try refine ⟨rfl, ?_⟩); (try refine ⟨rfl, ?_⟩)
  first | (intro acts; rw [hret _ acts rfl rfl rfl]) | rw [hret _ _ rfl rfl rfl]
  exact Steps.refl _
/-- what holds at the law's entry: the machine, the code, the tables' words (any of lw_tbl by 'hts w (by decide +kernel)'), the script of L ints xs at the cell b, what the Statement gives of the start (any of its parts by flat_of_before) -/
def lw_At (p : Program) (s : State) (m : MethodId) (meth : Method) (c : Code) (b L : Nat) (xs : Nat → Int32) : Prop :=
  p.tables.exec = Jvm.exec ∧ c.code = code ∧ meth.sig.returnType = ret ∧ c.maxLocals = 4 ∧ s.vm.findClass R_law = some m.cls ∧ (∀ w ∈ lw_tbl, w.before #[Value.ref b] s = true) ∧ va_X b L xs s s.heap ∧ b < s.heap.size ∧ meth.locks = false ∧ (Jvm.Cond.and given_1 narrow_1).before #[Value.ref b] s = true ∧ meth.name = x.name
-- ===== my part =====
theorem gim1 {i : Nat} {w : Cond} (h : tables_1_1[i]? = some w) : w ∈ lw_tbl := List.mem_append_right _ (List.mem_append_left _ (List.mem_of_getElem? h))
theorem gim2 {i : Nat} {w : Cond} (h : tables_1_2[i]? = some w) : w ∈ lw_tbl := List.mem_append_right _ (List.mem_append_right _ (List.mem_append_left _ (List.mem_of_getElem? h)))
theorem gim3 {i : Nat} {w : Cond} (h : tables_1_3[i]? = some w) : w ∈ lw_tbl := List.mem_append_right _ (List.mem_append_right _ (List.mem_append_right _ (List.mem_append_left _ (List.mem_of_getElem? h))))
theorem gim4 {i : Nat} {w : Cond} (h : tables_1_4[i]? = some w) : w ∈ lw_tbl := List.mem_append_right _ (List.mem_append_right _ (List.mem_append_right _ (List.mem_append_right _ (List.mem_append_left _ (List.mem_of_getElem? h)))))
theorem gim5 {i : Nat} {w : Cond} (h : tables_1_5[i]? = some w) : w ∈ lw_tbl := List.mem_append_right _ (List.mem_append_right _ (List.mem_append_right _ (List.mem_append_right _ (List.mem_append_right _ (List.mem_of_getElem? h)))))
theorem tx_len : ∀ i : Nat, i < 5 → glens.getD i 0 < 2 ^ 31 := by decide
theorem tx_ex : ∀ i : Nat, i < 5 → Cond.exactly (Term.string "CoinTrack$Teller" (gKs.getD i (0, "")).1) "java/lang/String" ∈ flatC (Jvm.Cond.and given_1 narrow_1) := by decide +kernel
theorem tx_co : ∀ i : Nat, i < 5 → Cond.eq (.field (Term.string "CoinTrack$Teller" (gKs.getD i (0, "")).1) "java/lang/String" "coder" "B") (.int 0) ∈ flatC (Jvm.Cond.and given_1 narrow_1) := by decide +kernel
theorem tx_ar : ∀ i : Nat, i < 5 → Cond.arrayOf (.field (Term.string "CoinTrack$Teller" (gKs.getD i (0, "")).1) "java/lang/String" "value" "[B") .byte ∈ flatC (Jvm.Cond.and given_1 narrow_1) := by decide +kernel
theorem tx_le : ∀ i : Nat, i < 5 → Cond.eq (.length (.field (Term.string "CoinTrack$Teller" (gKs.getD i (0, "")).1) "java/lang/String" "value" "[B")) (.int (Int32.ofNat (glens.getD i 0))) ∈ flatC (Jvm.Cond.and given_1 narrow_1) := by decide +kernel
theorem tx_el : ∀ i : Nat, i < 5 → ∀ j : Nat, j < glens.getD i 0 → Cond.eq (.elem (.field (Term.string "CoinTrack$Teller" (gKs.getD i (0, "")).1) "java/lang/String" "value" "[B") (.int (Int32.ofNat j))) (.int ((gbyt.getD i []).getD j 0)) ∈ flatC (Jvm.Cond.and given_1 narrow_1) := by decide +kernel
theorem tx_ne : ∀ i : Nat, i < 5 → ∀ j : Nat, j < 5 → i ≠ j → (Cond.not (Cond.eq (Term.string "CoinTrack$Teller" (gKs.getD i (0, "")).1) (Term.string "CoinTrack$Teller" (gKs.getD j (0, "")).1)) ∈ flatC (Jvm.Cond.and given_1 narrow_1) ∨ Cond.not (Cond.eq (Term.string "CoinTrack$Teller" (gKs.getD j (0, "")).1) (Term.string "CoinTrack$Teller" (gKs.getD i (0, "")).1)) ∈ flatC (Jvm.Cond.and given_1 narrow_1)) := by decide +kernel
theorem gLo_law {sv : Nat → Value} {ad : Nat → Nat} {b : Nat} (hsv : ∀ j, sv j = .null ∨ ∃ a, sv j = .ref a) (h0 : sv 0 = .ref b) : gLo sv ad ((lg_sl [Value.ref b] ++ List.replicate (4 - (lg_sl [Value.ref b]).length) Slot.unset).toArray) [.retAddr 0, .null, .null, .null] := by
  have h := gLo_entry (sv := sv) (ad := ad) hsv (As := [.retAddr 0]) (L := 4) rfl (by decide)
  have e : [Value.retAddr 0].map (gv sv ad) = [.ref b] := by
    show [sv 0] = [.ref b]
    rw [h0]
  rw [e] at h
  exact h
/-- what the tables and the start say, as the small machine asks it -/
theorem st_C {p : Program} {s : State} {m : MethodId} {meth : Method} {c : Code} {b L : Nat} {xs : Nat → Int32} (C0 : lw_At p s m meth c b L xs) : ∃ (D : va_G) (ca : FieldType → ClassId) (sv : Nat → Value), gC gmt (L, xs) 8 p room_1 s m #[Value.ref b] meth c D ca sv (fun q : Nat => s.heap.size ≤ q) ∧ sv 0 = .ref b ∧ ∀ j, sv j = .null ∨ ∃ a, sv j = .ref a := by
  obtain ⟨hx, hb, hr, hml, hown, hts, hX, hbl, hlocks, hgv, hnm⟩ := C0
  have hgw := gWs_hts hts
  have hs := flat_of_before _ hgv
  have hA : ∀ a : Nat, a < s.heap.size → ¬ (fun q : Nat => s.heap.size ≤ q) a := fun a h => Nat.not_le.mpr h
  obtain ⟨c0, i0, k0⟩ := u_known (C := RX0) (T := TX0) (N := 3) (n := 3) hgw inWX0 (hgw _ tw_104)
  obtain ⟨c1, i1, k1⟩ := u_known (C := RX1) (T := TX1) (N := 5) (n := 5) hgw inWX1 (hgw _ tw_155)
  obtain ⟨c2, i2, k2⟩ := u_known (C := RX2) (T := TX2) (N := 7) (n := 7) hgw inWX2 (hgw _ tw_123)
  obtain ⟨c3, i3, k3⟩ := u_known (C := RX3) (T := TX3) (N := 7) (n := 7) hgw inWX3 (hgw _ tw_64)
  obtain ⟨c4, i4, k4⟩ := u_known (C := RX4) (T := TX4) (N := 5) (n := 5) hgw inWX4 (hgw _ tw_177)
  obtain ⟨c5, i5, k5⟩ := u_known (C := RX5) (T := TX5) (N := 6) (n := 6) hgw inWX5 (hgw _ tw_56)
  obtain ⟨c6, i6, k6⟩ := u_known (C := RX6) (T := TX6) (N := 23) (n := 23) hgw inWX6 (hgw _ tw_711)
  obtain ⟨dC, dI, hKc⟩ : ∃ (dC : Nat → ClassId) (dI : Nat → Nat → Nat), ∀ (k : Nat) (q : vw_C), vwCl[k]? = some q → u_Kn s q.1 q.2.1 q.2.2 (dC k) (dI k) := by
    refine ⟨fun k => if k = 0 then c0 else if k = 1 then c1 else if k = 2 then c2 else if k = 3 then c3 else if k = 4 then c4 else if k = 5 then c5 else c6, fun k => if k = 0 then i0 else if k = 1 then i1 else if k = 2 then i2 else if k = 3 then i3 else if k = 4 then i4 else if k = 5 then i5 else i6, ?_⟩
    intro k q hq
    match k, hq with
    | 0, hq => cases hq; exact k0
    | 1, hq => cases hq; exact k1
    | 2, hq => cases hq; exact k2
    | 3, hq => cases hq; exact k3
    | 4, hq => cases hq; exact k4
    | 5, hq => cases hq; exact k5
    | 6, hq => cases hq; exact k6
    | k + 7, hq => simp [vwCl] at hq
  obtain ⟨cI, kI, pI, a1, a2, a3⟩ := Cond.arrayClass_spec (hgw _ tw_102)
  obtain ⟨cZ, kZ, pZ, b1, b2, b3⟩ := Cond.arrayClass_spec (hgw _ tw_793)
  have hov := hts _ (gim1 (i := 70) rfl)
  obtain ⟨pT, cT, kT, t1, t2, t3, t4, t5⟩ := Cond.arrayOver_spec hov
  have hK : va_K (dC, dI) vwCl (gTy (fun ty => if ty = .int then cI else if ty = .boolean then cZ else cT)) s := by
    refine ⟨hKc, fun k q hq => ?_⟩
    match k, hq with
    | 0, hq => cases hq; exact ⟨fun n z => ⟨fun k h => (by cases h), kI, a2, pI, a3⟩, a1⟩
    | 1, hq => cases hq; exact ⟨fun n z => ⟨fun k h => (by cases h), kZ, b2, pZ, b3⟩, b1⟩
    | 2, hq => cases hq; exact ⟨fun n z => ⟨fun k h => (by cases h), kT, t3, pT, t4⟩, ⟨kT, pT, t3, t4, t1, t5⟩⟩
    | k + 3, hq => simp [gTy] at hq
  have hN : gNst s := by
    refine ⟨?_, va_AO.of hov⟩
    unfold gNl
    exact List.forall_mem_cons.mpr ⟨va_Nw.of rfl (hts _ (gim1 (i := 25) rfl)), List.forall_mem_cons.mpr ⟨va_Nw.of rfl (hts _ (gim1 (i := 65) rfl)), List.forall_mem_cons.mpr ⟨va_Nw.of rfl (hts _ (gim1 (i := 84) rfl)), List.forall_mem_cons.mpr ⟨va_Nw.of rfl (hts _ (gim1 (i := 89) rfl)), List.forall_mem_cons.mpr ⟨va_Nw.of rfl (hts _ (gim1 (i := 116) rfl)), List.forall_mem_cons.mpr ⟨va_Nw.of rfl (hts _ (gim1 (i := 138) rfl)), List.forall_mem_cons.mpr ⟨va_Nw.of rfl (hts _ (gim1 (i := 221) rfl)), List.forall_mem_cons.mpr ⟨va_Nw.of rfl (hts _ (gim2 (i := 70) rfl)), List.forall_mem_cons.mpr ⟨va_Nw.of rfl (hts _ (gim2 (i := 73) rfl)), List.forall_mem_cons.mpr ⟨va_Nw.of rfl (hts _ (gim2 (i := 112) rfl)), List.forall_mem_cons.mpr ⟨va_Nw.of rfl (hts _ (gim2 (i := 141) rfl)), List.forall_mem_cons.mpr ⟨va_Nw.of rfl (hts _ (gim3 (i := 45) rfl)), List.forall_mem_cons.mpr ⟨va_Nw.of rfl (hts _ (gim3 (i := 84) rfl)), fun _ h => absurd h List.not_mem_nil⟩⟩⟩⟩⟩⟩⟩⟩⟩⟩⟩⟩⟩
  obtain ⟨adK, adV, hS5, hev⟩ := vk_Sof (args := #[Value.ref b]) (s := s) (N := 5) (tm := fun i => (Term.string "CoinTrack$Teller" (gKs.getD i (0, "")).1)) (len := glens) (byt := gbyt) (A := fun q : Nat => s.heap.size ≤ q) tx_len (fun i hi => hs _ (tx_ex i hi)) (fun i hi => hs _ (tx_co i hi)) (fun i hi => hs _ (tx_ar i hi)) (fun i hi => hs _ (tx_le i hi)) (fun i hi j hj => hs _ (tx_el i hi j hj)) (fun i j hi hj hij => (tx_ne i hi j hj hij).imp (fun z => hs _ z) (fun z => hs _ z)) hA
  have hR5 : ∀ j : Nat, j < 5 → vk_R "CoinTrack$Teller" (gKs.getD j (0, "")).1 (gKs.getD j (0, "")).2 (adK j) s := by
    intro j hj
    have he := hev j hj
    match j, hj, he with
    | 0, _, he => exact vk_R.of (hts _ (gim1 (i := 237) rfl)) he
    | 1, _, he => exact vk_R.of (hts _ (gim2 (i := 50) rfl)) he
    | 2, _, he => exact vk_R.of (hts _ (gim2 (i := 51) rfl)) he
    | 3, _, he => exact vk_R.of (hts _ (gim2 (i := 52) rfl)) he
    | 4, _, he => exact vk_R.of (hts _ (gim2 (i := 53) rfl)) he
    | j + 5, hj, _ => exact absurd hj (by omega)
  have hZ1 : va_Z "java/lang/String" "COMPACT_STRINGS" "Z" (.int 1) (fun q : Nat => s.heap.size ≤ q) s s.heap := va_Zof (hts _ (gim2 (i := 11) rfl)) (hgw _ tw_48) (va_eqi (hs _ (by decide +kernel))) hA
  obtain ⟨fv, hfv, hZ2⟩ : ∃ fv : Value, (fv = .null ∨ ∃ a, fv = .ref a) ∧ va_Z "jdk/internal/util/Preconditions" "SIOOBE_FORMATTER" "Ljava/util/function/BiFunction;" fv (fun q : Nat => s.heap.size ≤ q) s s.heap := by
    rcases va_Zqof (args := #[Value.ref b]) (A := fun q : Nat => s.heap.size ≤ q) (hts _ (gim2 (i := 27) rfl)) (hgw _ tw_50) (hs _ (by decide +kernel)) hA with h | ⟨t, h⟩
    · exact ⟨_, Or.inl rfl, h⟩
    · exact ⟨_, Or.inr ⟨t, rfl⟩, h⟩
  have hsv : ∀ j, (fun j : Nat => if j = 0 then Value.ref b else if 1 ≤ j ∧ j ≤ 5 then .ref (adK (j - 1)) else if 11 ≤ j ∧ j ≤ 15 then .ref (adV (j - 11)) else if j = 90 then fv else .ref b) j = .null ∨ ∃ a, (fun j : Nat => if j = 0 then Value.ref b else if 1 ≤ j ∧ j ≤ 5 then .ref (adK (j - 1)) else if 11 ≤ j ∧ j ≤ 15 then .ref (adV (j - 11)) else if j = 90 then fv else .ref b) j = .ref a := by
    intro j
    dsimp only
    split
    · exact Or.inr ⟨_, rfl⟩
    · split
      · exact Or.inr ⟨_, rfl⟩
      · split
        · exact Or.inr ⟨_, rfl⟩
        · split
          · exact hfv
          · exact Or.inr ⟨_, rfl⟩
  refine ⟨(dC, dI), _, fun j : Nat => if j = 0 then Value.ref b else if 1 ≤ j ∧ j ≤ 5 then .ref (adK (j - 1)) else if 11 ≤ j ∧ j ≤ 15 then .ref (adV (j - 11)) else if j = 90 then fv else .ref b, ⟨hx, by rw [hM_L_law]; exact hb, by rw [hM_L_law]; exact hml, by rw [hM_L_law]; exact hr, by rw [hM_L_law]; exact hown, hgw, hlocks, hK, hN, ⟨⟨b, rfl, hX, hbl, hA b hbl⟩, ⟨adK, adV, fun j hj => ⟨?_, ?_⟩, hS5, hR5⟩, hZ1, hZ2, hsv, fun j hj => ?_⟩, fun _ h => h, by rw [hM_L_law]; exact hnm, by rw [hM_L_law]; exact Nat.le_of_ble_eq_true rfl, by rw [hM_L_law]; exact Nat.le_of_ble_eq_true rfl⟩, rfl, hsv⟩
  · dsimp only
    rw [if_neg (by omega), if_pos (by omega), Nat.add_sub_cancel]
  · dsimp only
    rw [if_neg (by omega), if_neg (by omega), if_pos (by omega), Nat.add_sub_cancel]
  · dsimp only
    split
    · exact ⟨_, rfl⟩
    · split
      · exact ⟨_, rfl⟩
      · split
        · exact ⟨_, rfl⟩
        · rw [if_neg (by omega)]; exact ⟨_, rfl⟩
theorem whole_start {p : Program} {e : Env} {s : State} {m : MethodId} {below : List Frame} {meth : Method} {c : Code} (l : Launch) (hflags : l.flags = flags0) {b L : Nat} {xs : Nat → Int32} (hL : L ≤ 2560) (C0 : lw_At p s m meth c b L xs) : W p l e room_1 s m #[Value.ref b] below meth c s.heap [] 0 0 (lw_Z below #[Value.ref b] s) (entryFrame m ([Value.ref b] : List Value).toArray 4) := by
  obtain ⟨D, ca, sv, hC, h0, hsv⟩ := st_C C0
  obtain ⟨hx, hb, hr, hml, hown, hts, hX, hbl, hlocks, hgv, hnm⟩ := C0
  obtain ⟨f, ⟨v, n1, k1, w1⟩, hgx, hv, hn, hk⟩ := lw_all (X := (L, xs)) hL (w := fun _ => .inr (0, []))
  dsimp only at hv hn hk
  subst hv
  have hwf : gwf ([.retAddr 0, .null, .null, .null], [], 0, 0, fun _ => .inr (0, [])) := by
    refine ⟨fun u hu => ?_, fun u hu => absurd hu List.not_mem_nil, fun a ha => absurd ha (Nat.not_lt_zero a)⟩
    intro a e
    subst e
    simp at hu
  have hlen : ([Value.retAddr 0, .null, .null, .null] : List Value).length = (gmt 8).2.2.1 := by rw [hM_L_law]; rfl
  obtain ⟨_, G⟩ := snd (l := l) (gT_ok (L, xs)) f 8 0 _ _ n1 k1 w1 hgx hwf hlen
  have hG := G p e room_1 s m #[Value.ref b] below meth c D ca sv (fun q : Nat => s.heap.size ≤ q) 0 0 (fun _ => 0) (lw_Z below #[Value.ref b] s) hC (Nat.le_refl _) (Nat.le_refl _) (show n1 - 0 ≤ 600000 by omega) (show k1 - 0 ≤ 7302250 by omega) ?_
  · rw [lg_entry_eq]
    exact hG (fun _ => 0) s.heap [] _ ⟨fun k q h => by simp [gL] at h, ⟨fun i j p q h => by simp [gL] at h, fun k q h => by simp [gL] at h⟩, va_S.rf, gLo_law hsv h0, fun _ _ => rfl⟩
  · intro pc' ls' hpc ad H locs la hRl
    unfold gRins at hpc
    rw [hM_L_law] at hpc
    refine va_forget (fun q hq => hRl.2.2.1.2.2 q hq) ?_
    exact W.widen (k := 600000) (n := 7302250) (show n1 - 0 ≤ 600000 by omega) (show k1 - 0 ≤ 7302250 by omega) (lw_ret hx hb hr hlocks hpc)
