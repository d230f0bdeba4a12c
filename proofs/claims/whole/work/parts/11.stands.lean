/-! WHAT STANDS FOR WHAT: the small machine's cells and values, and the machine's -/
def gWs : List Cond := lw_tbl.filter goodWord
theorem gin {i : Nat} {w : Cond} (h : lw_tbl[i]? = some w) (hg : goodWord w = true) : w ∈ gWs := List.mem_filter.mpr ⟨List.mem_of_getElem? h, hg⟩
theorem gWs_good : GoodIn gWs gWs := fun _ h => ⟨h, good_of_word (List.mem_filter.mp h).2⟩
theorem gWs_hts {args : Array Value} {s : State} (h : ∀ w ∈ lw_tbl, w.before args s = true) : ∀ w ∈ gWs, w.before args s = true := fun w hw => h w (List.mem_filter.mp hw).1
def gv (sv : Nat → Value) (ad : Nat → Nat) : Value → Value
  | .ref a => .ref (ad a)
  | .retAddr j => sv j
  | .int x => .int x
  | .long x => .long x
  | .float x => .float x
  | .double x => .double x
  | .null => .null
def gc (ca : FieldType → ClassId) (sv : Nat → Value) (ad : Nat → Nat) : gE → va_E
  | .inl (ty, m, .inl f) => .inl (ca ty, m, .inl f)
  | .inl (ty, m, .inr (.inl f)) => .inl (ca ty, m, .inr (.inl f))
  | .inl (ty, m, .inr (.inr (.inl f))) => .inl (ca ty, m, .inr (.inr (.inl f)))
  | .inl (ty, m, .inr (.inr (.inr (.inl f)))) => .inl (ca ty, m, .inr (.inr (.inr (.inl f))))
  | .inl (ty, m, .inr (.inr (.inr (.inr f)))) => .inl (ca ty, m, .inr (.inr (.inr (.inr (fun j => (f j).map ad)))))
  | .inr (c, fs) => .inr (c, fs.map (gv sv ad))
def gok (n : Nat) (v : Value) : Prop := ∀ a, v = .ref a → a < n
def gcok (n : Nat) : gE → Prop
  | .inl (_, _, .inl _) => True
  | .inl (_, _, .inr (.inl _)) => True
  | .inl (_, _, .inr (.inr (.inl _))) => True
  | .inl (_, _, .inr (.inr (.inr (.inl _)))) => True
  | .inl (_, _, .inr (.inr (.inr (.inr f)))) => ∀ j a, f j = some a → a < n
  | .inr (_, fs) => ∀ v ∈ fs, gok n v
theorem gok_le {n n' : Nat} {v : Value} (h : n ≤ n') (hv : gok n v) : gok n' v := fun a e => Nat.lt_of_lt_of_le (hv a e) h
theorem gcok_le {n n' : Nat} {e : gE} (h : n ≤ n') (he : gcok n e) : gcok n' e := by
  match e, he with
  | .inl (_, _, .inl _), _ => exact trivial
  | .inl (_, _, .inr (.inl _)), _ => exact trivial
  | .inl (_, _, .inr (.inr (.inl _))), _ => exact trivial
  | .inl (_, _, .inr (.inr (.inr (.inl _)))), _ => exact trivial
  | .inl (_, _, .inr (.inr (.inr (.inr f)))), he => exact fun j a hj => Nat.lt_of_lt_of_le (he j a hj) h
  | .inr (_, fs), he => exact fun v hv => gok_le h (he v hv)
theorem gok_int {n : Nat} {x : Int32} : gok n (.int x) := fun _ e => by cases e
theorem gok_long {n : Nat} {x : Int64} : gok n (.long x) := fun _ e => by cases e
theorem gok_null {n : Nat} : gok n .null := fun _ e => by cases e
theorem gok_ret {n j : Nat} : gok n (.retAddr j) := fun _ e => by cases e
theorem gok_ref {n a : Nat} : gok n (.ref a) ↔ a < n := ⟨fun h => h a rfl, fun h b e => by cases e; exact h⟩
theorem gv_eq {sv : Nat → Value} {ad ad' : Nat → Nat} {n : Nat} {v : Value} (hv : gok n v) (h : ∀ a, a < n → ad' a = ad a) : gv sv ad' v = gv sv ad v := by
  cases v with
  | ref a => exact congrArg Value.ref (h a (hv a rfl))
  | _ => rfl
theorem gvs_eq {sv : Nat → Value} {ad ad' : Nat → Nat} {n : Nat} {vs : List Value} (hv : ∀ v ∈ vs, gok n v) (h : ∀ a, a < n → ad' a = ad a) : vs.map (gv sv ad') = vs.map (gv sv ad) := List.map_congr_left fun v hm => gv_eq (hv v hm) h
theorem gc_eq {ca : FieldType → ClassId} {sv : Nat → Value} {ad ad' : Nat → Nat} {n : Nat} {e : gE} (he : gcok n e) (h : ∀ a, a < n → ad' a = ad a) : gc ca sv ad' e = gc ca sv ad e := by
  match e, he with
  | .inl (_, _, .inl _), _ => rfl
  | .inl (_, _, .inr (.inl _)), _ => rfl
  | .inl (_, _, .inr (.inr (.inl _))), _ => rfl
  | .inl (_, _, .inr (.inr (.inr (.inl _)))), _ => rfl
  | .inl (_, _, .inr (.inr (.inr (.inr f)))), he =>
    show Sum.inl _ = Sum.inl _
    have e1 : (fun j => (f j).map ad') = fun j => (f j).map ad := by
      funext j
      cases hj : f j with
      | none => rfl
      | some a => exact congrArg some (h a (he j a hj))
    rw [e1]
  | .inr (_, fs), he =>
    show Sum.inr _ = Sum.inr _
    rw [gvs_eq he h]
def gL (ca : FieldType → ClassId) (sv : Nat → Value) (ad : Nat → Nat) (n : Nat) (w : gH) : va_W := (List.range n).map fun a => (ad a, gc ca sv ad (w a))
section GL
variable {ca : FieldType → ClassId} {sv : Nat → Value} {ad ad' : Nat → Nat} {n a : Nat} {w : gH}
theorem gL_at (h : a < n) : (gL ca sv ad n w)[a]? = some (ad a, gc ca sv ad (w a)) := by simp [gL, h]
theorem gL_ge (h : n ≤ a) : (gL ca sv ad n w)[a]? = none := by simp [gL, h]
theorem gL_set (h : a < n) (e : gE) : (gL ca sv ad n w).set a (ad a, gc ca sv ad e) = gL ca sv ad n (va_up w a e) := by
  apply List.ext_getElem?
  intro j
  rw [List.getElem?_set]
  by_cases hj : a = j
  · subst hj
    rw [if_pos rfl, gL_at h]
    simp [gL, h, va_up]
  · rw [if_neg hj]
    by_cases hn : j < n
    · rw [gL_at hn, gL_at hn]
      simp [va_up, Ne.symm hj]
    · rw [gL_ge (by omega), gL_ge (by omega)]
theorem gL_ext (hw : ∀ a, a < n → gcok n (w a)) (h : ∀ a, a < n → ad' a = ad a) : gL ca sv ad' n w = gL ca sv ad n w := by
  apply List.ext_getElem?
  intro j
  by_cases hn : j < n
  · rw [gL_at hn, gL_at hn, h j hn, gc_eq (hw j hn) h]
  · rw [gL_ge (by omega), gL_ge (by omega)]
theorem gL_push (hw : ∀ a, a < n → gcok n (w a)) {e : gE} (he : gcok n e) (q : Nat) : gL ca sv ad n w ++ [(q, gc ca sv ad e)] = gL ca sv (va_up ad n q) (n + 1) (va_up w n e) := by
  have hup : ∀ a, a < n → va_up ad n q a = ad a := fun a ha => by simp [va_up, Nat.ne_of_lt ha]
  apply List.ext_getElem?
  intro j
  by_cases hn : j < n
  · rw [List.getElem?_append_left (by simp [gL]; exact hn), gL_at hn, gL_at (by omega), hup j hn, show va_up w n e j = w j by simp [va_up, Nat.ne_of_lt hn], gc_eq (hw j hn) hup]
  · rw [List.getElem?_append_right (by simp [gL]; omega)]
    by_cases hj : j = n
    · subst hj
      rw [gL_at (by omega)]
      simp [gL, va_up]
      exact (gc_eq he hup).symm
    · rw [gL_ge (by omega)]
      simp [gL]
      omega
end GL
def gwf (S : gS) : Prop := (∀ v ∈ S.1, gok S.2.2.1 v) ∧ (∀ v ∈ S.2.1, gok S.2.2.1 v) ∧ ∀ a, a < S.2.2.1 → gcok S.2.2.1 (S.2.2.2.2 a)
def gLo (sv : Nat → Value) (ad : Nat → Nat) (la : Array Slot) (ls : List Value) : Prop := la.size = ls.length ∧ lv_wf la ∧ ∀ (j : Nat) (v : Value), ls[j]? = some v → v ≠ .null → la[j]? = some (.val (gv sv ad v))
/-- the locals as a list of the kit's -/
def gll (sv : Nat → Value) (ad : Nat → Nat) (ls : List Value) : List (Nat × Value) := (List.range ls.length).filterMap fun j => (ls[j]?).bind fun v => if v = .null then none else some (j, gv sv ad v)
theorem gll_mem {sv : Nat → Value} {ad : Nat → Nat} {ls : List Value} {q : Nat × Value} : q ∈ gll sv ad ls ↔ ∃ v, ls[q.1]? = some v ∧ v ≠ .null ∧ q.2 = gv sv ad v := by
  unfold gll
  rw [List.mem_filterMap]
  constructor
  · rintro ⟨j, hj, h⟩
    cases hv : ls[j]? with
    | none => simp [hv] at h
    | some v =>
      by_cases hn : v = .null
      · simp [hv, hn] at h
      · simp [hv, hn] at h
        subst h
        exact ⟨v, hv, hn, rfl⟩
  · rintro ⟨v, h1, h2, h3⟩
    refine ⟨q.1, List.mem_range.mpr (List.getElem?_eq_some_iff.mp h1).1, ?_⟩
    obtain ⟨j, u⟩ := q
    dsimp only at h1 h3 ⊢
    rw [h1]
    simp [h2, h3]
theorem gLo.has {sv : Nat → Value} {ad : Nat → Nat} {la : Array Slot} {ls : List Value} (h : gLo sv ad la ls) : lv_has la ls.length (gll sv ad ls) := by
  refine ⟨h.1, h.2.1, fun q hq => ?_⟩
  obtain ⟨v, h1, h2, h3⟩ := gll_mem.mp hq
  rw [h3]
  exact h.2.2 _ _ h1 h2
theorem gLo.eq {sv : Nat → Value} {ad ad' : Nat → Nat} {n : Nat} {la : Array Slot} {ls : List Value} (h : gLo sv ad la ls) (hv : ∀ v ∈ ls, gok n v) (he : ∀ a, a < n → ad' a = ad a) : gLo sv ad' la ls := ⟨h.1, h.2.1, fun j v h1 h2 => by rw [gv_eq (hv v (List.mem_of_getElem? h1)) he]; exact h.2.2 j v h1 h2⟩
def gRl (D : va_G) (ca : FieldType → ClassId) (sv : Nat → Value) (A : Nat → Prop) (s : State) (n0 : Nat) (ad0 : Nat → Nat) (ls : List Value) (n : Nat) (w : gH) (ad : Nat → Nat) (H : Heap) (locs : List Loc) (la : Array Slot) : Prop :=
  va_P D vwCl (gL ca sv ad n w) H ∧ va_D A (gL ca sv ad n w) ∧ va_S A s.heap H locs ∧ gLo sv ad la ls ∧ ∀ a, a < n0 → ad a = ad0 a
def gTy (ca : FieldType → ClassId) : List (ClassId × FieldType) := [(ca .int, .int), (ca .boolean, .boolean), (ca (.object "CoinTrack$Track"), .object "CoinTrack$Track")]
/-- the calls of nest mates' private members -/
def gNl : List (String × Nat × MethodName × String) := [("CoinTrack", 11, ⟨"CoinTrack$Track", "<init>", "()V"⟩, "CoinTrack"), ("CoinTrack", 18, ⟨"CoinTrack$History", "<init>", "()V"⟩, "CoinTrack"), ("CoinTrack", 29, ⟨"CoinTrack$Teller", "<init>", "()V"⟩, "CoinTrack"), ("CoinTrack$Teller", 20, ⟨"CoinTrack$Track", "<init>", "()V"⟩, "CoinTrack"), ("CoinTrack", 36, ⟨"CoinTrack$Planner", "<init>", "()V"⟩, "CoinTrack"), ("CoinTrack", 43, ⟨"CoinTrack$Witness", "<init>", "()V"⟩, "CoinTrack"), ("CoinTrack$Teller", 103, ⟨"CoinTrack", "within", "(III)Z"⟩, "CoinTrack"), ("CoinTrack$Teller", 109, ⟨"CoinTrack", "wearFits", "(II)Z"⟩, "CoinTrack"), ("CoinTrack$Teller", 106, ⟨"CoinTrack", "boundFits", "(II)Z"⟩, "CoinTrack"), ("CoinTrack$History", 28, ⟨"CoinTrack$Track", "<init>", "()V"⟩, "CoinTrack"), ("CoinTrack$Track", 51, ⟨"CoinTrack", "within", "(III)Z"⟩, "CoinTrack"), ("CoinTrack$Track", 94, ⟨"CoinTrack", "isOneAtMost", "(I)Z"⟩, "CoinTrack"), ("CoinTrack$Planner", 64, ⟨"CoinTrack", "isOneAtMost", "(I)Z"⟩, "CoinTrack")]
def gNst (U : State) : Prop := (∀ q ∈ gNl, va_Nw (.methodLinkNest q.1 q.2.1 q.2.2.1 q.2.2.2) U) ∧ va_AO "CoinTrack$Track" U
theorem gNst.warm {s U : State} (hW : s.WarmedH U.vm) (h : gNst s) : gNst U := ⟨fun q hq => va_Nw.warmM hW (h.1 q hq), va_AO.moved hW.alike h.2⟩
/-- where the texts stand in Teller's pool -/
def gKs : List (Nat × String) := [(67, "coin"), (73, "hole"), (75, "scale"), (77, "rim"), (79, "room")]
/-- what lies outside: the script, the texts, two statics of the JDK's -/
def gZ (X : gX) (sv : Nat → Value) (A : Nat → Prop) (U : State) (H : Heap) : Prop :=
  (∃ b, sv 0 = .ref b ∧ va_X b X.1 X.2 U H ∧ b < H.size ∧ ¬ A b) ∧
  (∃ adK adV : Nat → Nat, (∀ j, j < 5 → sv (j + 1) = .ref (adK j) ∧ sv (j + 11) = .ref (adV j)) ∧ vk_S 5 glens gbyt adK adV A U H ∧ ∀ j, j < 5 → vk_R "CoinTrack$Teller" (gKs.getD j (0, "")).1 (gKs.getD j (0, "")).2 (adK j) U) ∧
  va_Z "java/lang/String" "COMPACT_STRINGS" "Z" (.int 1) A U H ∧ va_Z "jdk/internal/util/Preconditions" "SIOOBE_FORMATTER" "Ljava/util/function/BiFunction;" (sv 90) A U H ∧
  (∀ j, sv j = .null ∨ ∃ a, sv j = .ref a) ∧ ∀ j, j ≤ 20 → ∃ a, sv j = .ref a
theorem gZ.call {X : gX} {sv : Nat → Value} {A B : Nat → Prop} {s U : State} {H : Heap} {locs : List Loc} (h : gZ X sv A s s.heap) (hS : va_S A s.heap H locs) (hW : s.WarmedH U.vm) (hU : U.heap = H) (hAB : ∀ q, B q → A q) : gZ X sv B U U.heap := by
  obtain ⟨⟨b, h1, h2, h3, h4⟩, ⟨adK, adV, h5, h6, h7⟩, h8, h9, h10⟩ := h
  rw [hU]
  refine ⟨⟨b, h1, (h2.kept (hS.2.1 b h3 h4)).moved hW.alike, Nat.lt_of_lt_of_le h3 hS.1, fun z => h4 (hAB b z)⟩, ⟨adK, adV, h5, ((h6.kept hS.2.1).moved hW.alike).narrow hAB, fun j hj => (h7 j hj).warm hW⟩, ?_, ?_, h10⟩
  · exact ((h8.kept hS.2.1).moved hW.alike).narrow hAB
  · exact ((h9.kept hS.2.1).moved hW.alike).narrow hAB
abbrev gM : Type := MethodName × ByteArray × Nat × Option FieldType × String × Nat
/-- the context of a method's body -/
def gC (mt : Nat → gM) (X : gX) (i : Nat) (p : Program) (R : Room) (s : State) (m : MethodId) (args : Array Value) (meth : Method) (c : Code) (D : va_G) (ca : FieldType → ClassId) (sv : Nat → Value) (A : Nat → Prop) : Prop :=
  p.tables.exec = Jvm.exec ∧ c.code = (mt i).2.1 ∧ c.maxLocals = (mt i).2.2.1 ∧ meth.sig.returnType = (mt i).2.2.2.1 ∧ s.vm.findClass (mt i).2.2.2.2.1 = some m.cls ∧ (∀ w ∈ gWs, w.before args s = true) ∧ meth.locks = false ∧ va_K D vwCl (gTy ca) s ∧ gNst s ∧ gZ X sv A s s.heap ∧ (∀ q, s.heap.size ≤ q → A q) ∧ meth.name = (mt i).1.name ∧ (mt i).2.2.2.2.2 ≤ R.frames ∧ 35 * (mt i).2.2.2.2.2 ≤ R.locals
def gG (p : Program) (l : Launch) (e : Env) (R : Room) (s : State) (m : MethodId) (args : Array Value) (below : List Frame) (meth : Method) (c : Code) (D : va_G) (ca : FieldType → ClassId) (sv : Nat → Value) (A : Nat → Prop) (n0 k0 : Nat) (ad0 : Nat → Nat) (Qf : State → Prop) (pc : Nat) (S : gS) : Prop :=
  ∀ (ad : Nat → Nat) (H : Heap) (locs : List Loc) (la : Array Slot), gRl D ca sv A s n0 ad0 S.1 S.2.2.1 S.2.2.2.2 ad H locs la → W p l e R s m args below meth c H locs (S.2.2.1 - n0) (S.2.2.2.1 - k0) Qf (F0 m pc la (S.2.1.map (gv sv ad)))
/-- a step of the small machine is one of the machine's -/
def gOk (mt : Nat → gM) (X : gX) (i pc : Nat) (o : gS → Option (Nat × gS)) : Prop := ∀ (S : gS) (q : Nat) (S' : gS), o S = some (q, S') → gwf S →
  gwf S' ∧ S.2.2.1 ≤ S'.2.2.1 ∧ S.2.2.2.1 ≤ S'.2.2.2.1 ∧ S'.1.length = S.1.length ∧
  ∀ (p : Program) (l : Launch) (e : Env) (R : Room) (s : State) (m : MethodId) (args : Array Value) (below : List Frame) (meth : Method) (c : Code) (D : va_G) (ca : FieldType → ClassId) (sv : Nat → Value) (A : Nat → Prop) (n0 k0 : Nat) (ad0 : Nat → Nat) (Qf : State → Prop),
    gC mt X i p R s m args meth c D ca sv A → n0 ≤ S.2.2.1 → k0 ≤ S.2.2.2.1 → S.1.length = (mt i).2.2.1 → S'.2.2.1 - n0 ≤ R.cells → S'.2.2.2.1 - k0 ≤ R.slots →
    gG p l e R s m args below meth c D ca sv A n0 k0 ad0 Qf q S' → gG p l e R s m args below meth c D ca sv A n0 k0 ad0 Qf pc S
