/-! THE MAIN THEOREM OF THE SMALL MACHINE -/
/-- what a return does: in the caller's own words -/
def gRet (mt : Nat → gM) (i : Nat) (v : Option Value) : Prop := match (mt i).2.2.2.1 with
  | none => v = none
  | some ty => ∃ x : Int32, v = some (.int x) ∧ narrow ty (.int x) = .int x
def gRins (mt : Nat → gM) (i pc : Nat) : Prop := match (mt i).2.2.2.1 with
  | none => decode (mt i).2.1 pc = .ok (.return_, 1)
  | some _ => decode (mt i).2.1 pc = .ok (.ireturn, 1)
/-- a method of the small machine meets its contract -/
theorem gMet {mt : Nat → gM} {X : gX} {l : Launch} {j : Nat} {As : List Value} {n k : Nat} {w : gH} {v : Option Value} {n1 k1 : Nat} {w1 : gH}
    (hpl : plainName (mt j).1.cls = true) (hO : (mt j).2.2.2.2.1 = (mt j).1.cls) (hna : As.length ≤ (mt j).2.2.1) (hcat : gcat As = As.length) (hn1 : n ≤ n1) (hk1 : k ≤ k1)
    (hv : gRet mt j v)
    (hG : ∀ (p : Program) (e : Env) (R : Room) (s : State) (m : MethodId) (args : Array Value) (below : List Frame) (meth : Method) (c : Code) (D : va_G) (ca : FieldType → ClassId) (sv : Nat → Value) (A : Nat → Prop) (n0 k0 : Nat) (ad0 : Nat → Nat) (Qf : State → Prop),
      gC mt X j p R s m args meth c D ca sv A → n0 ≤ n → k0 ≤ k → n1 - n0 ≤ R.cells → k1 - k0 ≤ R.slots →
      (∀ (pc' : Nat) (ls' : List Value), gRins mt j pc' → gG p l e R s m args below meth c D ca sv A n0 k0 ad0 Qf pc' (ls', v.toList, n1, k1, w1)) →
      gG p l e R s m args below meth c D ca sv A n0 k0 ad0 Qf 0 (As ++ List.replicate ((mt j).2.2.1 - As.length) .null, [], n, k, w))
    (D : va_G) (ca : FieldType → ClassId) (sv : Nat → Value) (ad : Nat → Nat) (sz : Nat) :
    Met l (mt j).1 (gWj (mt j)) (grm (mt j) (n1 - n) (k1 - k)) (va_Pc (As.map (gv sv ad)) (gPre X D ca sv ad sz n w)) (gQc D ca sv ad sz n w v n1 w1) (n1 - n) (k1 - k) (va_A (gL ca sv ad n w) sz) := by
  refine Met.ofW (cc := (mt j).2.1) (maxL := (mt j).2.2.1) (ret := (mt j).2.2.2.1) hpl rfl ?_
  intro p e s m args below meth c s₁ Bd hml hpre
  obtain ⟨rfl, hsz, hP, hK, hD0, hN, hZ⟩ := hpre
  subst hsz
  have hD := hD0.self (sz := s.heap.size)
  have hA : ∀ q : Nat, s.heap.size ≤ q → va_A (gL ca sv ad n w) s.heap.size q := fun q h => Or.inr h
  have hts : ∀ w' ∈ gWs, w'.before (As.map (gv sv ad)).toArray s = true := fun w' h => atoms_spec (ws := gWj (mt j)) Bd.pre w' (List.mem_cons_of_mem _ h)
  have hlk := Bd.notSynchronized
  have hx := Bd.exec
  have hb := Bd.bytes
  have hr := Bd.returns
  have hC : gC mt X j p (headSpec (gWj (mt j)) (grm (mt j) (n1 - n) (k1 - k))).room s m (As.map (gv sv ad)).toArray meth c D ca sv (va_A (gL ca sv ad n w) s.heap.size) :=
    ⟨hx, hb, hml, hr, by rw [hO]; exact findClass_of_methodNamed Bd.named, hts, hlk, hK, hN, hZ, hA, (name_of_methodNamed Bd.named Bd.method).1, Nat.le_refl _, Nat.le_refl _⟩
  rw [lg_entry_eq]
  have h0 := hG p e _ s m _ below meth c D ca sv _ n k ad (MQ below (gQc D ca sv ad s.heap.size n w v n1 w1) (As.map (gv sv ad)).toArray s (n1 - n) (k1 - k) (va_A (gL ca sv ad n w) s.heap.size)) hC (Nat.le_refl _) (Nat.le_refl _) (Nat.le_refl _) (Nat.le_refl _) ?_ ad s.heap [] _ ⟨hP, hD, va_S.rf, gLo_entry hZ.2.2.2.2.1 hcat hna, fun _ _ => rfl⟩
  · dsimp only at h0
    rw [Nat.sub_self, Nat.sub_self] at h0
    exact h0
  · intro pc' ls' hpc ad' H locs la hR
    obtain ⟨q1, q2, q3, q4, q5⟩ := hR
    dsimp only at q1 q2 q3 q4 q5 ⊢
    unfold gRins at hpc
    unfold gRet at hv
    cases hret : (mt j).2.2.2.1 with
    | none =>
      rw [hret] at hv hpc hr
      dsimp only at hv hpc
      subst hv
      exact W.vret hx hb hr (fun t ht hW => ⟨⟨ad', q5, rfl, by rw [ht]; exact q1, q2⟩, q3.F ht⟩) q3.2.2 hpc
    | some ty =>
      rw [hret] at hv hpc hr
      dsimp only at hv hpc
      obtain ⟨x, rfl, hnar⟩ := hv
      exact W.zret (v := x) hx hb hr hnar (fun t ht hW => ⟨⟨ad', q5, rfl, by rw [ht]; exact q1, q2⟩, q3.F ht⟩) q3.2.2 hpc
theorem grc_recv {X : gX} {D : va_G} {ca : FieldType → ClassId} {sv : Nat → Value} {A : Nat → Prop} {s : State} {ad : Nat → Nat} {n rc : Nat} {w : gH} {H : Heap} {locs : List Loc} {As : List Value} (hK : va_K D vwCl (gTy ca) s) (hP : va_P D vwCl (gL ca sv ad n w) H) (hS : va_S A s.heap H locs) (hZ : gZ X sv A s s.heap) (hAs : ∀ v ∈ As, gok n v) (h : grc w rc As = true) : gRecv rc (As.map (gv sv ad)) H s := by
  cases rc with
  | zero => exact trivial
  | succ c =>
    unfold grc at h
    dsimp only at h
    split at h
    · rename_i a As'
      have ha : a < n := gok_ref.mp (hAs _ List.mem_cons_self)
      split at h
      · rename_i ci fs hw
        refine ⟨ad a, As'.map (gv sv ad), rfl, ?_⟩
        by_cases h9 : c = 1999
        · exact Or.inl h9
        · have hci : ci = c := by simpa [h9] using h
          subst hci
          have he : (gL ca sv ad n w)[a]? = some (ad a, .inr (ci, fs.map (gv sv ad))) := by rw [gL_at ha, hw]; rfl
          obtain ⟨q, hq, -⟩ := hP a _ he
          obtain ⟨cell, g1, g2, g3⟩ := va_recv hK hP hq he
          refine Or.inr ⟨cell, g1, g2, ?_⟩
          have e1 : gcn ci = q.1 := by
            unfold gcn
            dsimp only at hq
            rw [if_neg (fun e => by rw [e] at hq; simp [vwCl] at hq), List.getD_eq_getElem?_getD, hq]
            rfl
          rw [e1]
          exact g3
      · cases h
    · rename_i j As'
      simp only [Bool.and_eq_true, decide_eq_true_eq, beq_iff_eq] at h
      obtain ⟨⟨rfl, h1⟩, h2⟩ := h
      obtain ⟨adK, adV, h5, h6, h7⟩ := hZ.2.1
      obtain ⟨j, rfl⟩ : ∃ j', j = j' + 1 := ⟨j - 1, by omega⟩
      have e1 : gv sv ad (.retAddr (j + 1)) = .ref (adK j) := (h5 j (by omega)).1
      refine ⟨adK j, As'.map (gv sv ad), by rw [List.map_cons, e1], Or.inr ?_⟩
      exact vk_recv h6 (by omega) hS
    · cases h
set_option maxHeartbeats 4000000 in
theorem snd {mt : Nat → gM} {X : gX} {T : Nat → Nat → gO} {l : Launch} (hT : ∀ i pc, gAt mt X i pc (T i pc)) : ∀ (f i pc : Nat) (S : gS) (v : Option Value) (n1 k1 : Nat) (w1 : gH), gx T f i pc S = some (v, n1, k1, w1) → gwf S → S.1.length = (mt i).2.2.1 →
    (gRet mt i v ∧ (∀ a, a < n1 → gcok n1 (w1 a)) ∧ S.2.2.1 ≤ n1 ∧ S.2.2.2.1 ≤ k1) ∧
    ∀ (p : Program) (e : Env) (R : Room) (s : State) (m : MethodId) (args : Array Value) (below : List Frame) (meth : Method) (c : Code) (D : va_G) (ca : FieldType → ClassId) (sv : Nat → Value) (A : Nat → Prop) (n0 k0 : Nat) (ad0 : Nat → Nat) (Qf : State → Prop),
      gC mt X i p R s m args meth c D ca sv A → n0 ≤ S.2.2.1 → k0 ≤ S.2.2.2.1 → n1 - n0 ≤ R.cells → k1 - k0 ≤ R.slots →
      (∀ (pc' : Nat) (ls' : List Value), gRins mt i pc' → gG p l e R s m args below meth c D ca sv A n0 k0 ad0 Qf pc' (ls', v.toList, n1, k1, w1)) →
      gG p l e R s m args below meth c D ca sv A n0 k0 ad0 Qf pc S := by
  intro f
  induction f with
  | zero => intro i pc S v n1 k1 w1 h; simp [gx] at h
  | succ f ih =>
    intro i pc S v n1 k1 w1 h hw hlen
    have hAt := hT i pc
    rw [gx] at h
    cases hti : T i pc with
    | inl o =>
      rw [hti] at h hAt
      cases ho : o S with
      | none => simp [ho] at h
      | some qs =>
        obtain ⟨q, S'⟩ := qs
        simp only [ho] at h
        obtain ⟨hw', hn, hk, hl', K⟩ := hAt S q S' ho hw
        obtain ⟨⟨r1, r2, r3, r4⟩, G⟩ := ih i q S' v n1 k1 w1 h hw' (hl'.trans hlen)
        refine ⟨⟨r1, r2, Nat.le_trans hn r3, Nat.le_trans hk r4⟩, ?_⟩
        intro p e R s m args below meth c D ca sv A n0 k0 ad0 Qf hC hn0 hk0 hc hs hret
        exact K p l e R s m args below meth c D ca sv A n0 k0 ad0 Qf hC hn0 hk0 hlen (by omega) (by omega) (G p e R s m args below meth c D ca sv A n0 k0 ad0 Qf hC (by omega) (by omega) hc hs hret)
    | inr z =>
      rw [hti] at h hAt
      rcases z with ⟨j, na, mx, rc, q⟩ | z
      · obtain ⟨ls, st, n, k, w⟩ := S
        obtain ⟨hw1, hw2, hw3⟩ := hw
        dsimp only at h hw1 hw2 hw3 hlen ⊢
        obtain ⟨rfl, rfl, hlv, hnaL, hpl, hO, hcall⟩ := hAt
        split at h
        · rename_i hcond
          obtain ⟨c1, c2, c3, c4⟩ := hcond
          cases hg : gx T f j 0 ((st.take na).reverse ++ List.replicate ((mt j).2.2.1 - na) .null, [], n, k, w) with
          | none => simp [hg] at h
          | some r1 =>
            obtain ⟨v2, n2, k2, w2⟩ := r1
            simp only [hg] at h
            generalize hAs : (st.take na).reverse = As at hg c4
            have hAl : As.length = na := by rw [← hAs]; simp [c1]
            have hAg : gcat As = As.length := by
              rw [hAl, ← c3, ← hAs]
              unfold gcat
              rw [List.map_reverse, List.sum_reverse]
            have hAok : ∀ u ∈ As, gok n u := fun u hu => by
              rw [← hAs] at hu
              exact hw2 u (List.mem_of_mem_take (List.mem_reverse.mp hu))
            rw [← hAl] at hg
            have hwe : gwf (As ++ List.replicate ((mt j).2.2.1 - As.length) Value.null, [], n, k, w) := ⟨fun u hu => by
              rcases List.mem_append.mp hu with q | q
              · exact hAok u q
              · rw [List.eq_of_mem_replicate q]; exact gok_null, (fun u hu => absurd hu List.not_mem_nil), hw3⟩
            obtain ⟨⟨a1, a2, a3, a4⟩, G2⟩ := ih j 0 _ v2 n2 k2 w2 hg hwe (by simp; omega)
            dsimp only at a3 a4
            have hst' : ∀ u ∈ v2.toList ++ st.drop na, gok n2 u := fun u hu => by
              rcases List.mem_append.mp hu with q | q
              · unfold gRet at a1
                split at a1
                · subst a1; cases q
                · obtain ⟨x, rfl, -⟩ := a1
                  simp at q
                  subst q
                  exact gok_int
              · exact gok_le a3 (hw2 u (List.mem_of_mem_drop q))
            obtain ⟨⟨b1, b2, b3, b4⟩, G3⟩ := ih i (pc + 3) (ls, v2.toList ++ st.drop na, n2, k2, w2) v n1 k1 w1 h ⟨fun u hu => gok_le a3 (hw1 u hu), hst', a2⟩ hlen
            dsimp only at b3 b4
            refine ⟨⟨b1, b2, by omega, by omega⟩, ?_⟩
            intro p e R s m args below meth c D ca sv A n0 k0 ad0 Qf hC hn0 hk0 hc hs hret ad H locs la hR
            have hG3 := G3 p e R s m args below meth c D ca sv A n0 k0 ad0 Qf hC (Nat.le_trans hn0 a3) (Nat.le_trans hk0 a4) hc hs hret
            obtain ⟨hP, hD, hS, hl, had⟩ := hR
            dsimp only at hP hD hl hn0 hk0 ⊢
            have hC0 := hC
            obtain ⟨hx, hb, hml, hr, hown, hts, hlk, hK, hN, hZ, hA, hnm, hfr, hlo⟩ := hC0
            have hFree : ∀ q, va_A (gL ca sv ad n w) H.size q → A q := fun q hq => by
              rcases hq with ⟨k', e', hq⟩ | hq
              · exact hD.2 k' _ hq
              · exact hA q (Nat.le_trans hS.1 hq)
            have hMet := gMet (l := l) hpl hO (by omega) hAg a3 a4 a1 (fun p e R s m args below meth c D ca sv A n0 k0 ad0 Qf => G2 p e R s m args below meth c D ca sv A n0 k0 ad0 Qf) D ca sv ad H.size
            have hrun := hcall X p l e R s m args below meth c D ca sv A hC (As.map (gv sv ad)) ((st.drop na).map (gv sv ad)) la H locs (n - n0) (k - k0) (n2 - n) (k2 - k) _ _ _ hMet gPre_blind
              (fun U hU hWm => ⟨rfl, by rw [hU], by rw [hU]; exact hP, va_K.moved hWm.alike hK, hD.weaken (fun _ _ _ _ => trivial), hN.warm hWm, hZ.call hS hWm hU hFree⟩)
              (grc_recv hK hP hS hZ hAok c4) (by rw [List.length_map]; exact hAl) (hl.1.trans hlen) (by rw [gcat_map hZ.2.2.2.2.1]; exact c2) ⟨by omega, by omega⟩
            have hstk : st.map (gv sv ad) = (As.map (gv sv ad)).reverse ++ (st.drop na).map (gv sv ad) := by
              rw [← hAs, List.map_reverse, List.reverse_reverse, ← List.map_append, List.take_append_drop]
            rw [hstk]
            intro Tm hTm Xs
            obtain ⟨v', st₀, t, T', Lc, e0, X', hL, e1, e2, ⟨⟨ad', had', hov, hP', hD'⟩, hF⟩, hgo⟩ := hrun Tm hTm Xs
            cases hov
            have hz : H.size ≤ t.heap.size := by rw [← e0]; exact hF.1
            have hun : ∀ q : Nat, q < H.size → ¬ va_A (gL ca sv ad n w) H.size q → t.heap[q]? = H[q]? := fun q h1 h2 => by
              have := hF.2 q (by rw [e0]; exact h1) h2
              rw [this, e0]
            have hS' : va_S A s.heap t.heap (locs ++ Lc) := ⟨Nat.le_trans hS.1 hz, fun q h1 h2 => by
              rw [hun q (Nat.lt_of_lt_of_le h1 hS.1) (fun z => h2 (hFree q z))]
              exact hS.2.1 q h1 h2, fun q hq => by
              rcases List.mem_append.mp hq with h | h
              · exact hS.2.2 q h
              · exact hFree _ (hL q h)⟩
            have hW' := hG3 ad' t.heap (locs ++ Lc) la ⟨hP', hD'.weaken (fun _ _ _ h => hFree _ h), hS', hl.eq hw1 had', fun a ha => (had' a (by omega)).trans (had a ha)⟩
            dsimp only at hW'
            rw [show n2 - n0 = n - n0 + (n2 - n) by omega, show k2 - k0 = k - k0 + (k2 - k) by omega, List.map_append, gvs_eq (fun u hu => hw2 u (List.mem_of_mem_drop hu)) had'] at hW'
            have hv' : v2.toList.map (gv sv ad') = (v2.map (gv sv ad')).toList := by cases v2 <;> rfl
            rw [hv'] at hW'
            obtain ⟨t2, s1, s2⟩ := hW' T' e1 X'
            exact ⟨t2, hgo t2 s1, s2⟩
        · cases h
      · obtain ⟨ls, st, n, k, w⟩ := S
        obtain ⟨hw1, hw2, hw3⟩ := hw
        dsimp only at hw1 hw2 hw3 hlen
        cases z with
        | none =>
          obtain ⟨g1, g2⟩ := hAt
          simp only at h
          split at h
          · rename_i hst
            subst hst
            cases h
            refine ⟨⟨by unfold gRet; rw [g1], hw3, Nat.le_refl _, Nat.le_refl _⟩, ?_⟩
            intro p e R s m args below meth c D ca sv A n0 k0 ad0 Qf hC hn0 hk0 hc hs hret
            exact hret pc ls (by unfold gRins; rw [g1]; exact g2)
          · cases h
        | some ty =>
          obtain ⟨g1, g2⟩ := hAt
          simp only at h
          split at h
          · rename_i x
            split at h
            · rename_i hnar
              cases h
              refine ⟨⟨by unfold gRet; rw [g1]; exact ⟨x, rfl, hnar⟩, hw3, Nat.le_refl _, Nat.le_refl _⟩, ?_⟩
              intro p e R s m args below meth c D ca sv A n0 k0 ad0 Qf hC hn0 hk0 hc hs hret
              exact hret pc ls (by unfold gRins; rw [g1]; exact g2)
            · cases h
          · cases h
