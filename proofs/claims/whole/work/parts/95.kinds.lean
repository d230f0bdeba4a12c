/-! ASKED: the look, kinds, the track -/
section KA
variable {nw kr ts co : Nat → Int32} {kc tc rm jm : Int32} {K N : Nat}
theorem p_lo (hR : tRl nw kr ts co kc tc rm jm K N) {l : List Nat} (hl : l.length ≤ 13) (hu : ∀ j, j < l.length → l.getD j 0 < 13) : plo kr ts N K (mWe nw) l = mlo nw N K (mWe nw) l := by
  unfold plo mlo
  by_cases q : l.length ≤ 1
  · rw [if_pos q, if_pos q]
  · rw [if_neg q, if_neg q]
    have h : ∀ c, c < K → ∀ x, x < 10 → pmo kr ts N l c x = mmo nw N l c x (fun _ => 0) ∧ ∃ t, t < l.length + 1 ∧ mmo nw N l c x (fun _ => 0) = nI t := by
      intro c hc x _
      refine ⟨?_, ?_⟩
      · unfold pmo mmo mmb
        refine congrArg Prod.snd (gfor_congr _ _ _ (fun i _ hi a => ?_))
        show mms (gbc kr ts N (nI c) (nI x) (gsu (l.getD i 0))) a = mms (mbc nw (mfz (l.getD i 0)) (mfb (l.getD i 0)) (fun p => p) N c (nI x)) a
        rw [p_bc hR (hu i (by omega)) hc]
      · have h0 : ∀ b, ∃ t, t ≤ 0 ∧ mrng 0 7 (fun _ => 0) (fun _ => 0) b = nI t := by
          intro b
          refine ⟨0, by omega, ?_⟩
          unfold mrng
          by_cases z : 0 ≤ b ∧ b < 7
          · rw [if_pos z]; rfl
          · rw [if_neg z]; rfl
        obtain ⟨t, h1, h2⟩ := mmb_bd (fun u => mbc nw (mfz u) (mfb u) (fun p => p) N c (nI x)) l l.length 0 0 (mrng 0 7 (fun _ => 0) (fun _ => 0)) 0 (by omega) h0 ⟨0, by omega, rfl⟩
        exact ⟨t, by omega, h2⟩
    have h2 := lkk (B := l.length + 1) (by omega) hR.1 (fun c hc => (p_we hR c hc).2) h K 0 (-9, 0) (-9, nI (l.length + 1)) (by omega) ⟨rfl, Or.inl ⟨rfl, rfl⟩⟩
    exact h2.1
theorem bc_6 (hN : N ≤ 6) {c : Nat} {fz fb : Int32} : ∀ x, mbc nw fz fb (fun p => p) N c (nI x) ≤ 6 := by
  intro x
  have : mbc nw fz fb (fun p => p) N c (nI x) ≤ N := mbn_le
  omega
theorem p_gt (hR : tRl nw kr ts co kc tc rm jm K N) {c : Nat} (hc : c < K) : ggt ts (gbs kr ts N (nI c) (mWe nw c)) N = mto (fun x => mtl nw (fun p => p) (nI (mbc nw (-9) 0 (fun p => p) N c (nI x))) 0 N 0) (mWe nw c) := by
  have hN := hR.2.1
  have hb := bc_6 (nw := nw) (c := c) (fz := -9) (fb := 0) hN
  rw [p_bs hR hc, mbs_nI hb]
  have hm := bsN_lt (fun x => mbc nw (-9) 0 (fun p => p) N c (nI x)) hb (mWe nw c + 1) 0 0 (by omega)
  have hbit := bsN_bit (fun x => mbc nw (-9) 0 (fun p => p) N c (nI x)) (mWe nw c + 1) 0 0
  generalize bsN (fun x => mbc nw (-9) 0 (fun p => p) N c (nI x)) 0 (mWe nw c + 1) 0 = m at hm hbit ⊢
  unfold ggt mto
  have e1 := ggt_imx (T := fun j => gtl ts (nI j) 0 N 0) (B := fun j => (nI m >>> (nI j &&& 31)) &&& 1 = 0) (N + 1) 0 _ 0 imx_0
  have e2 := mto_imx (tl := fun x => mtl nw (fun p => p) (nI (mbc nw (-9) 0 (fun p => p) N c (nI x))) 0 N 0) (mWe nw c + 1) 0 _ 0 imx_0
  refine imx_un e1 e2 (fun v => ⟨?_, ?_⟩)
  · rintro (z | ⟨y, h1, h2, h3, h4⟩)
    · exact z.elim
    · try dsimp only at h3 h4
      have ht : m.testBit y = true := by
        cases hy : m.testBit y with
        | true => rfl
        | false => exact absurd ((nI_bit m hm y (by omega)).2.mpr hy) h3
      rcases (hbit y).mp ht with z | ⟨x, g1, g2, g3⟩
      · rw [Nat.zero_testBit] at z; cases z
      · refine Or.inr ⟨x, g1, g2, ?_⟩
        try dsimp only at g3 ⊢
        rw [h4, g3]
        exact p_tl hR N 0 0 (by omega)
  · rintro (z | ⟨x, h1, h2, h3⟩)
    · exact z.elim
    · try dsimp only at h3
      have hy := hb x
      have hyN : mbc nw (-9) 0 (fun p => p) N c (nI x) ≤ N := mbn_le
      have ht := (hbit (mbc nw (-9) 0 (fun p => p) N c (nI x))).mpr (Or.inr ⟨x, h1, h2, rfl⟩)
      refine Or.inr ⟨mbc nw (-9) 0 (fun p => p) N c (nI x), by omega, by omega, ?_, ?_⟩
      · try dsimp only
        intro z
        have := (nI_bit m hm _ (by omega)).2.mp z
        rw [ht] at this
        cases this
      · try dsimp only
        rw [h3]
        exact (p_tl hR N 0 0 (by omega)).symm
theorem p_pr (hR : tRl nw kr ts co kc tc rm jm K N) : gpr kr (fun c => ggt ts (gbs kr ts N (nI c) (mWe nw c)) N) K = mpr nw (fun c => mto (fun x => mtl nw (fun p => p) (nI (mbc nw (-9) 0 (fun p => p) N c (nI x))) 0 N 0) (mWe nw c)) K := by
  have hR' := hR
  obtain ⟨hK, hN, r0, e1, r31, e2, rk, rt, e3, rc, e4, hrg⟩ := hR'
  unfold gpr mpr
  refine gfor_congr _ _ _ (fun c _ hc a => ?_)
  have e : gof kr 30 (nI c * 5 + 4) = nw (5 * c + 5) := by rw [nI5, nIp4, gof_at (by omega) (by omega)]; exact rk c (by omega) 4 (by omega)
  try dsimp only
  rw [e, p_gt hR (show c < K by omega)]
/-- the bins of a kind's coins, as a set -/
def bnW (nw : Nat → Int32) (N : Nat) (c : Nat) (wr : Nat) : Nat := bsN (fun x => mbc nw (-9) 0 (fun p => p) N c (nI x)) 0 (wr + 1) 0
theorem bnW_nI (hN : N ≤ 6) {c wr : Nat} : mbs (fun x => mbc nw (-9) 0 (fun p => p) N c (nI x)) wr = nI (bnW nw N c wr) ∧ bnW nw N c wr < 128 := ⟨mbs_nI (bc_6 hN), bsN_lt _ (bc_6 hN) _ _ _ (by omega)⟩
theorem p_ap (hR : tRl nw kr ts co kc tc rm jm K N) : (¬ gab (fun c => gbs kr ts N (nI c) (mWe nw c)) (-1) 0 K 0 = -9) ↔ ¬ maa (fun c => mbs (fun x => mbc nw (-9) 0 (fun p => p) N c (nI x)) (mWe nw c)) 0 K 0 1 = 0 := by
  have hN := hR.2.1
  have hK := hR.1
  have h1 := maa_dj (bs := fun c => mbs (fun x => mbc nw (-9) 0 (fun p => p) N c (nI x)) (mWe nw c)) (bn := fun c => bnW nw N c (mWe nw c)) K 0 0 1 (fun i _ _ => bnW_nI hN) (by omega)
  have h2 := gab_dj (bs := fun c => gbs kr ts N (nI c) (mWe nw c)) (bn := fun c => bnW nw N c (mWe nw c)) (left := -1) K 0 0 (fun i _ hi => by
    have hne : ¬ nI i = -1 := fun z => by
      have h1 := congrArg Int32.toInt z
      rw [nI_toInt (by omega)] at h1
      have h2 : (-1 : Int32).toInt = -1 := by decide
      omega
    rw [if_neg hne]
    try dsimp only
    rw [p_bs hR (show i < K by omega)]
    exact bnW_nI hN) (by omega)
  rw [nI_0] at h1 h2
  rw [h1]
  have h10 : ¬ (1 : Int32) = 0 := by decide
  rcases h2 with ⟨a, b⟩ | ⟨a, b⟩
  · refine ⟨fun _ => ⟨h10, a⟩, fun _ => ?_⟩
    rw [b]
    refine nI_n9 ?_
    have := unN_lt (bs := fun c => bnW nw N c (mWe nw c)) K 0 0 (fun i _ _ => (bnW_nI hN).2) (by omega)
    omega
  · exact ⟨fun z => absurd b z, fun z => absurd z.2 a⟩
theorem p_db (hR : tRl nw kr ts co kc tc rm jm K N) : gdb (fun c => gbs kr ts N (nI c) (mWe nw c)) K = mdb (fun c => mbs (fun x => mbc nw (-9) 0 (fun p => p) N c (nI x)) (mWe nw c)) K := by
  have hN := hR.2.1
  have e : gdb (fun c => gbs kr ts N (nI c) (mWe nw c)) K = gdb (fun c => mbs (fun x => mbc nw (-9) 0 (fun p => p) N c (nI x)) (mWe nw c)) K := by
    unfold gdb
    refine gfor_congr _ _ _ (fun c _ hc a => ?_)
    try dsimp only
    simp only [p_bs hR (show c < K by omega)]
  rw [e]
  exact gdb_mdb (fun c _ => ⟨_, (bnW_nI hN).2, (bnW_nI hN).1⟩)
theorem p_br (hR : tRl nw kr ts co kc tc rm jm K N) {c : Nat} (hc : c < K) {wt : Nat} : (if gab (fun c => gbs kr ts N (nI c) (mWe nw c)) (nI c) 0 K 0 = -9 then -9 else gbr (fun x => gbc kr ts N (nI c) (nI x) (-1)) (gab (fun c => gbs kr ts N (nI c) (mWe nw c)) (nI c) 0 K 0) 0 wt (-9)) = gfor (fun x m => if maa (fun c' => mbs (fun x => mbc nw (-9) 0 (fun p => p) N c' (nI x)) (if nI c' = nI c then x else mWe nw c')) 0 K 0 1 = 0 then m else nI x) 0 wt (-9) := by
  have hN := hR.2.1
  have hK := hR.1
  have h10 : ¬ (1 : Int32) = 0 := by decide
  have ebc : (fun x => gbc kr ts N (nI c) (nI x) (-1)) = fun x => mbc nw (-9) 0 (fun p => p) N c (nI x) := by
    funext x
    exact p_bc1 hR hc
  rw [ebc]
  have h2 := gab_dj (bs := fun c => gbs kr ts N (nI c) (mWe nw c)) (bn := fun i => if i = c then 0 else bnW nw N i (mWe nw i)) (left := nI c) K 0 0 (fun i _ hi => by
    try dsimp only
    by_cases q : i = c
    · rw [if_pos (by rw [q]), if_pos q]
      exact ⟨rfl, by omega⟩
    · rw [if_neg (fun z => q ((nI_eq (by omega) (by omega)).mp z)), if_neg q, p_bs hR (by omega)]
      exact bnW_nI hN) (by omega)
  rw [nI_0] at h2
  have hsp : ∀ x, (¬ maa (fun c' => mbs (fun x => mbc nw (-9) 0 (fun p => p) N c' (nI x)) (if nI c' = nI c then x else mWe nw c')) 0 K 0 1 = 0) ↔ (djN (fun i => if i = c then 0 else bnW nw N i (mWe nw i)) 0 K 0 ∧ ∀ b, (bnW nw N c x).testBit b = true → (unN (fun i => if i = c then 0 else bnW nw N i (mWe nw i)) 0 K 0).testBit b = false) := by
    intro x
    have h1 := maa_dj (bs := fun c' => mbs (fun x => mbc nw (-9) 0 (fun p => p) N c' (nI x)) (if nI c' = nI c then x else mWe nw c')) (bn := fun i => if i = c then bnW nw N c x else bnW nw N i (mWe nw i)) K 0 0 1 (fun i _ hi => by
      try dsimp only
      by_cases q : i = c
      · subst q
        rw [if_pos rfl, if_pos rfl]
        exact bnW_nI hN
      · rw [if_neg (fun z => q ((nI_eq (by omega) (by omega)).mp z)), if_neg q]
        exact bnW_nI hN) (by omega)
    rw [nI_0] at h1
    rw [h1, dj_split (bn := fun i => bnW nw N i (mWe nw i)) (s := bnW nw N c x) hc (fun i => rfl)]
    exact ⟨fun z => z.2, fun z => ⟨h10, z⟩⟩
  have hU : unN (fun i => if i = c then 0 else bnW nw N i (mWe nw i)) 0 K 0 < 128 := by
    refine unN_lt _ _ _ (fun i _ _ => ?_) (by omega)
    try dsimp only
    by_cases q : i = c
    · rw [if_pos q]; omega
    · rw [if_neg q]; exact (bnW_nI hN).2
  have efor : ∀ (A : Nat → Int32), gfor (fun x m => if A x = 0 then m else nI x) 0 wt (-9) = gfor (fun x m => if ¬ A x = 0 then nI x else m) 0 wt (-9) := by
    intro A
    refine gfor_congr _ _ _ (fun x _ _ m => ?_)
    by_cases q : A x = 0
    · rw [if_pos q, if_neg (fun z => z q)]
    · rw [if_neg q, if_pos q]
  rw [efor]
  rcases h2 with ⟨a, b⟩ | ⟨a, b⟩
  · rw [b, if_neg (nI_n9 (by omega))]
    refine br_al (f := fun x => ¬ maa (fun c' => mbs (fun x => mbc nw (-9) 0 (fun p => p) N c' (nI x)) (if nI c' = nI c then x else mWe nw c')) 0 K 0 1 = 0) (fun x => ?_) wt 0 (-9) (fun y hy => absurd hy (by omega))
    rw [hsp x]
    constructor
    · rintro ⟨_, h⟩ y hy
      have h6 := bc_6 (nw := nw) (c := c) (fz := -9) (fb := 0) hN y
      refine (nI_bit _ hU _ (by omega)).2.mpr (h _ ?_)
      exact (bsN_bit _ _ _ _ _).mpr (Or.inr ⟨y, by omega, by omega, rfl⟩)
    · intro h
      refine ⟨a, fun b hb => ?_⟩
      rcases (bsN_bit _ _ _ _ _).mp hb with z | ⟨y, g1, g2, g3⟩
      · rw [Nat.zero_testBit] at z; cases z
      · have h6 := bc_6 (nw := nw) (c := c) (fz := -9) (fb := 0) hN y
        have := (nI_bit _ hU _ (by omega)).2.mp (h y (by omega))
        try dsimp only at g3
        rw [g3] at this
        exact this
  · rw [b, if_pos rfl]
    exact (br_stop (f := fun x => ¬ maa (fun c' => mbs (fun x => mbc nw (-9) 0 (fun p => p) N c' (nI x)) (if nI c' = nI c then x else mWe nw c')) 0 K 0 1 = 0) wt 0 (-9) (fun x _ z => a ((hsp x).mp z).1)).symm
end KA
section KB
variable {X : gX} {w : gH} {n k : Nat}
theorem s_look (hL : LI w n k) : GG X 105 180 [.ref 0] [.ref 24, .null, .null, .null, .null, .null] n k w := by
  obtain ⟨nw, ps, d, im, ik, tv, l, S, Fk, Fx, Fb, hC, hM⟩ := hL
  have hC' := hC
  obtain ⟨h0, ⟨kr, ts, co, kc, tc, rm, jm, K, N, hT, hR⟩, hH, hTe, hPl, hWi⟩ := hC'
  have hR' := hR
  obtain ⟨hK, hN, r0, e1, r31, e2, rk, rt, e3, rc, e4, hrg⟩ := hR'
  subst e1; subst e2; subst e3; subst e4
  have h1 : w 1 = .inr (3, [.ref 2, .ref 3, .ref 4, .int (nI K), .int (nI N), .int (nw 50), .int (nw 58)]) := hT.1
  have hd6 : d ≤ 6 := by obtain ⟨_, _, _, _, _, _, _, h, _⟩ := hH; exact h
  have g5 : gisO 0 (w 5) = true := by obtain ⟨nx, rg, ig, h5, _⟩ := hH; rw [h5]; rfl
  unfold GG
  obtain ⟨sr, su, ty, sz, h20, h21, h22, h23, hF0⟩ := hWi
  have hw8 : wW w sr su ty (nI S) sz = w := wW_self h20 h21 h22 h23
  have t0' : ∀ {sr su ty : Nat → Int32} {sc sz : Int32}, wW w sr su ty sc sz 0 = (.inr (5, [.ref 1, .ref 5, .ref 7, .ref 8, .ref 15, .ref 20]) : gE) := by intros; rw [wW_ne (by omega), h0]
  rw [← hw8]
  simp only [eX5_look_0, eX5_look_1, eX5_look_4, eX5_look_5, eX5_look_8, Option.toList_some, Option.toList_none, List.cons_append, List.nil_append, gcat_nil, gcat_cons, cat_int, cat_ref, cat_null, cat_ret, cat_long, grc_ref, narZ0, narZ1, true_and, and_true, decide_true, Nat.reduceAdd, Nat.reduceLeDiff, if_true, if_false, eq_self, gfld_in, gobj_in, garr_in, garq_in, glen_in, gisO_in, ex_some, List.getElem?_cons_succ, List.getElem?_cons_zero, List.length_cons, List.length_nil, List.set_cons_succ, List.set_cons_zero, Nat.reduceLT, va_up_eq, va_up_nl, t0', wW_20]
  refine c_gather hT hK hN hF0 ?_
  intro su2 hsu
  rw [p_sl hR] at hsu ⊢
  have hlen : (msl nw K N Fk Fx Fb S 0 (2 * N + 1)).length ≤ 13 := by
    unfold msl
    have := gfl_len (fun u => mtk nw u ∧ msa nw (mfz u) (mfb u) K N Fk Fx Fb S) (2 * N + 1) 0
    omega
  have hu13 : ∀ j, j < (msl nw K N Fk Fx Fb S 0 (2 * N + 1)).length → (msl nw K N Fk Fx Fb S 0 (2 * N + 1)).getD j 0 < 13 := by
    intro j hj
    have hm : (msl nw K N Fk Fx Fb S 0 (2 * N + 1)).getD j 0 ∈ msl nw K N Fk Fx Fb S 0 (2 * N + 1) := by
      rw [List.getD_eq_getElem?_getD, List.getElem?_eq_getElem hj]
      exact List.getElem_mem hj
    have := gfl_mem (fun u => mtk nw u ∧ msa nw (mfz u) (mfb u) K N Fk Fx Fb S) (2 * N + 1) 0 hm
    omega
  simp only [eX5_look_11, eX5_look_12, eX5_look_15, eX5_look_16, eX5_look_19, Option.toList_some, Option.toList_none, List.cons_append, List.nil_append, gcat_nil, gcat_cons, cat_int, cat_ref, cat_null, cat_ret, cat_long, grc_ref, narZ0, narZ1, true_and, and_true, decide_true, Nat.reduceAdd, Nat.reduceLeDiff, if_true, if_false, eq_self, gfld_in, gobj_in, garr_in, garq_in, glen_in, gisO_in, ex_some, List.getElem?_cons_succ, List.getElem?_cons_zero, List.length_cons, List.length_nil, List.set_cons_succ, List.set_cons_zero, Nat.reduceLT, va_up_eq, va_up_nl, t0', wW_20]
  refine c_tellingCoin hT hK hN (p_wk hR) hlen hsu ?_
  intro ty2
  simp only [eX5_look_22, Option.toList_some, Option.toList_none, List.cons_append, List.nil_append, gcat_nil, gcat_cons, cat_int, cat_ref, cat_null, cat_ret, cat_long, grc_ref, narZ0, narZ1, true_and, and_true, decide_true, Nat.reduceAdd, Nat.reduceLeDiff, if_true, if_false, eq_self, gfld_in, gobj_in, garr_in, garq_in, glen_in, gisO_in, ex_some, List.getElem?_cons_succ, List.getElem?_cons_zero, List.length_cons, List.length_nil, List.set_cons_succ, List.set_cons_zero, Nat.reduceLT, va_up_eq, va_up_nl]
  refine ⟨_, rfl, ?_⟩
  obtain ⟨rd, tx, pz, tk, ta, va, fa, it, al, ln, fz, fb, be, fo, fm, io, hw, ht, hF⟩ := RM_wW (sr := sr) (su := su2) (ty := ty2) (sc := nI S) (sz := nI (msl nw K N Fk Fx Fb S 0 (2 * N + 1)).length) hM; refine ⟨by rw [hw]; rfl, ?_⟩; rw [hw]
  refine c6_look hN r31 hK r0 (p_wm hR) hF ?_
  intro al ln fz fb fo fm io
  exact ⟨by rw [p_lo hR hlen hu13], LI_mk (RC_wW hC hF0) ht hF⟩
theorem s_kind (hL : LI w n k) {a f : Int32} : GG X 96 161 [.ref 0, .int a, .int f] [.ref 24, .int a, .int f] n k w := by
  obtain ⟨nw, ps, d, im, ik, tv, l, S, Fk, Fx, Fb, hC, hM⟩ := hL
  have hC' := hC
  obtain ⟨h0, ⟨kr, ts, co, kc, tc, rm, jm, K, N, hT, hR⟩, hH, hTe, hPl, hWi⟩ := hC'
  have hR' := hR
  obtain ⟨hK, hN, r0, e1, r31, e2, rk, rt, e3, rc, e4, hrg⟩ := hR'
  subst e1; subst e2; subst e3; subst e4
  have h1 : w 1 = .inr (3, [.ref 2, .ref 3, .ref 4, .int (nI K), .int (nI N), .int (nw 50), .int (nw 58)]) := hT.1
  have hd6 : d ≤ 6 := by obtain ⟨_, _, _, _, _, _, _, h, _⟩ := hH; exact h
  have g5 : gisO 0 (w 5) = true := by obtain ⟨nx, rg, ig, h5, _⟩ := hH; rw [h5]; rfl
  unfold GG
  simp only [eX5_kind_0, eX5_kind_1, eX5_kind_4, eX5_kind_5, eX5_kind_8, Option.toList_some, Option.toList_none, List.cons_append, List.nil_append, gcat_nil, gcat_cons, cat_int, cat_ref, cat_null, cat_ret, cat_long, grc_ref, narZ0, narZ1, true_and, and_true, decide_true, Nat.reduceAdd, Nat.reduceLeDiff, if_true, if_false, eq_self, gfld_in, gobj_in, garr_in, garq_in, glen_in, gisO_in, ex_some, List.getElem?_cons_succ, List.getElem?_cons_zero, List.length_cons, List.length_nil, List.set_cons_succ, List.set_cons_zero, Nat.reduceLT, va_up_eq, va_up_nl, h0, h1, c_hasKind hT, gb_0]
  by_cases q : 0 ≤ a ∧ a < nI K
  · rw [if_pos (fun z => z q)]
    obtain ⟨c, hb, hb2⟩ : ∃ c, a = nI c ∧ c < K := by
      rcases pk_ix a (n := K) (by omega) with z | z | ⟨j, hj, e⟩
      · exact absurd q.1 (Int32.not_le.mpr z)
      · exact absurd q.2 (Int32.not_lt.mpr z)
      · exact ⟨j, e, hj⟩
    subst hb
    by_cases q2 : 0 ≤ f ∧ f ≤ 7
    · obtain ⟨g, hg, _, hg2⟩ := inR_of (lo := 0) (hi := 7) (by omega) (by omega) q2
      subst hg
      obtain ⟨_, ⟨wt, hwt, _, hwt9⟩, _⟩ := hrg.1 c hb2
      have hwk : gof kr 30 (nI c * 5 + 1) = nI wt := by rw [nI5, nI_1, gof_at (by omega) (by omega), ← hwt]; exact rk c hb2 1 (by omega)
      have fin : ∀ r, r = (if g < 5 then nw (5 * c + 1 + g) else if g = 5 then mbs (fun x => mbc nw (-9) 0 (fun p => p) N c (nI x)) (mWe nw c) else if g = 6 then mto (fun x => mtl nw (fun p => p) (nI (mbc nw (-9) 0 (fun p => p) N c (nI x))) 0 N 0) (mWe nw c) else gfor (fun x m => if maa (fun c' => mbs (fun x => mbc nw (-9) 0 (fun p => p) N c' (nI x)) (if nI c' = nI c then x else mWe nw c')) 0 K 0 1 = 0 then m else nI x) 0 wt (-9)) → ∃ y, some (Value.int r) = some (.int y) ∧ gisO 6 (w 24) = true ∧ gEv (gT X) 161 0 [.ref 24, .int (nI c), .int (nI g)] [] n k w (fun v2 n2 k2 w2 => v2 = some (.int y) ∧ LI w2 n2 k2) := by
        intro r hr
        refine ⟨_, rfl, ?_⟩
        obtain ⟨rd, tx, pz, tk, ta, va, fa, it, al, ln, fz, fb, be, fo, fm, io, hw, ht, hF⟩ := hM; refine ⟨by rw [hw]; rfl, ?_⟩; rw [hw]
        rw [c6_kind hK r0 (p_wm hR) hN r31 hb2 hwt (by omega) hg2]
        exact ⟨by rw [hr], LI_mk hC ht hF⟩
      have g0 : ∀ g, g < 5 → gtab 14 83 0 [46, 46, 46, 46, 46, 56, 65, 74] (nI g) = 60 := by decide
      have g55 : gtab 14 83 0 [46, 46, 46, 46, 46, 56, 65, 74] (nI 5) = 70 := by decide
      have g6 : gtab 14 83 0 [46, 46, 46, 46, 46, 56, 65, 74] (nI 6) = 79 := by decide
      have g7 : gtab 14 83 0 [46, 46, 46, 46, 46, 56, 65, 74] (nI 7) = 88 := by decide
      by_cases q5 : g < 5
      · simp only [eX5_kind_13, eX5_kind_14, eX5_kind_60, eX5_kind_61, eX5_kind_64, eX5_kind_65, eX5_kind_66, eX5_kind_69, Option.toList_some, Option.toList_none, List.cons_append, List.nil_append, gcat_nil, gcat_cons, cat_int, cat_ref, cat_null, cat_ret, cat_long, grc_ref, narZ0, narZ1, true_and, and_true, decide_true, Nat.reduceAdd, Nat.reduceLeDiff, if_true, if_false, eq_self, gfld_in, gobj_in, garr_in, garq_in, glen_in, gisO_in, ex_some, List.getElem?_cons_succ, List.getElem?_cons_zero, List.length_cons, List.length_nil, List.set_cons_succ, List.set_cons_zero, Nat.reduceLT, va_up_eq, va_up_nl, g0 g q5, h0, h1, c_ofKind hT]
        exact fin _ (by rw [if_pos q5, nI5, nI_add, gof_at (by omega) (by omega), rk c hb2 g q5, show 5 * c + g + 1 = 5 * c + 1 + g by omega])
      · have hc3 : g = 5 ∨ g = 6 ∨ g = 7 := by omega
        obtain ⟨hw1, hw2⟩ := p_wg hR c hb2
        rcases hc3 with rfl | rfl | rfl
        · simp only [eX5_kind_13, eX5_kind_14, eX5_kind_70, eX5_kind_71, eX5_kind_74, eX5_kind_75, eX5_kind_78, Option.toList_some, Option.toList_none, List.cons_append, List.nil_append, gcat_nil, gcat_cons, cat_int, cat_ref, cat_null, cat_ret, cat_long, grc_ref, narZ0, narZ1, true_and, and_true, decide_true, Nat.reduceAdd, Nat.reduceLeDiff, if_true, if_false, eq_self, gfld_in, gobj_in, garr_in, garq_in, glen_in, gisO_in, ex_some, List.getElem?_cons_succ, List.getElem?_cons_zero, List.length_cons, List.length_nil, List.set_cons_succ, List.set_cons_zero, Nat.reduceLT, va_up_eq, va_up_nl, g55, h0, h1, c_binsOf hN hT hw1 hw2]
          exact fin _ (by rw [if_neg q5, if_pos rfl, p_bs hR hb2])
        · simp only [eX5_kind_13, eX5_kind_14, eX5_kind_79, eX5_kind_80, eX5_kind_83, eX5_kind_84, eX5_kind_87, Option.toList_some, Option.toList_none, List.cons_append, List.nil_append, gcat_nil, gcat_cons, cat_int, cat_ref, cat_null, cat_ret, cat_long, grc_ref, narZ0, narZ1, true_and, and_true, decide_true, Nat.reduceAdd, Nat.reduceLeDiff, if_true, if_false, eq_self, gfld_in, gobj_in, garr_in, garq_in, glen_in, gisO_in, ex_some, List.getElem?_cons_succ, List.getElem?_cons_zero, List.length_cons, List.length_nil, List.set_cons_succ, List.set_cons_zero, Nat.reduceLT, va_up_eq, va_up_nl, g6, h0, h1, c_greatestToll hN hT hw1 hw2]
          exact fin _ (by rw [if_neg q5, if_neg (by omega), if_pos rfl, p_gt hR hb2])
        · simp only [eX5_kind_13, eX5_kind_14, eX5_kind_88, eX5_kind_89, eX5_kind_92, eX5_kind_93, eX5_kind_96, Option.toList_some, Option.toList_none, List.cons_append, List.nil_append, gcat_nil, gcat_cons, cat_int, cat_ref, cat_null, cat_ret, cat_long, grc_ref, narZ0, narZ1, true_and, and_true, decide_true, Nat.reduceAdd, Nat.reduceLeDiff, if_true, if_false, eq_self, gfld_in, gobj_in, garr_in, garq_in, glen_in, gisO_in, ex_some, List.getElem?_cons_succ, List.getElem?_cons_zero, List.length_cons, List.length_nil, List.set_cons_succ, List.set_cons_zero, Nat.reduceLT, va_up_eq, va_up_nl, g7, h0, h1, c_bears hN hK hT (p_wg hR) hwk (show wt < 1000 by omega)]
          exact fin _ ((p_br hR hb2).trans (by rw [if_neg q5, if_neg (by omega), if_neg (by omega)]))
    · have e : gtab 14 83 0 [46, 46, 46, 46, 46, 56, 65, 74] f = 97 := gtab_out (hi := 7) rfl (by decide) q2
      simp only [eX5_kind_13, eX5_kind_14, eX5_kind_97, eX5_kind_98, Option.toList_some, Option.toList_none, List.cons_append, List.nil_append, gcat_nil, gcat_cons, cat_int, cat_ref, cat_null, cat_ret, cat_long, grc_ref, narZ0, narZ1, true_and, and_true, decide_true, Nat.reduceAdd, Nat.reduceLeDiff, if_true, if_false, eq_self, gfld_in, gobj_in, garr_in, garq_in, glen_in, gisO_in, ex_some, List.getElem?_cons_succ, List.getElem?_cons_zero, List.length_cons, List.length_nil, List.set_cons_succ, List.set_cons_zero, Nat.reduceLT, va_up_eq, va_up_nl, e]
      refine ⟨_, rfl, ?_⟩
      obtain ⟨rd, tx, pz, tk, ta, va, fa, it, al, ln, fz, fb, be, fo, fm, io, hw, ht, hF⟩ := hM; refine ⟨by rw [hw]; rfl, ?_⟩; rw [hw]
      rw [c6_kind_bad hK r0 (fun z => q2 z.2)]
      exact ⟨rfl, LI_mk hC ht hF⟩
  · rw [if_neg (fun z => z q)]
    simp only [eX5_kind_11, eX5_kind_12, Option.toList_some, Option.toList_none, List.cons_append, List.nil_append, gcat_nil, gcat_cons, cat_int, cat_ref, cat_null, cat_ret, cat_long, grc_ref, narZ0, narZ1, true_and, and_true, decide_true, Nat.reduceAdd, Nat.reduceLeDiff, if_true, if_false, eq_self, gfld_in, gobj_in, garr_in, garq_in, glen_in, gisO_in, ex_some, List.getElem?_cons_succ, List.getElem?_cons_zero, List.length_cons, List.length_nil, List.set_cons_succ, List.set_cons_zero, Nat.reduceLT, va_up_eq, va_up_nl]
    refine ⟨_, rfl, ?_⟩
    obtain ⟨rd, tx, pz, tk, ta, va, fa, it, al, ln, fz, fb, be, fo, fm, io, hw, ht, hF⟩ := hM; refine ⟨by rw [hw]; rfl, ?_⟩; rw [hw]
    rw [c6_kind_bad hK r0 (fun z => q z.1)]
    exact ⟨rfl, LI_mk hC ht hF⟩
end KB
