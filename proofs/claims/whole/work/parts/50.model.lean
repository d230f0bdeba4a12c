/-! THE MODEL: its cells -/
def mW (w : gH) (o : Nat) (nw : Nat → Int32) (rd : Nat → Int32) (ps : Nat → Int32) (de : Int32) (im : Nat → Int32) (ik : Nat → Int32) (tx : Nat → Int32) (le : Int32) (pz : Int32) (tk : Int32) (ta : Int32) (va : Int32) (fa : Nat → Int32) (se : Int32) (it : Int32) (al : Nat → Int32) (ln : Int32) (fz : Int32) (fb : Int32) (be : Nat → Int32) (fo : Nat → Int32) (fm : Int32) (io : Nat → Int32) : gH := fun a => if a = o then .inr (6, [.ref (o + 1), .ref (o + 2), .ref (o + 3), .int de, .ref (o + 4), .ref (o + 5), .ref (o + 6), .int le, .int pz, .int tk, .int ta, .int va, .ref (o + 7), .int se, .int it, .ref (o + 8), .int ln, .int fz, .int fb, .ref (o + 9), .ref (o + 10), .int fm, .ref (o + 11)]) else if a = o + 1 then .inl (.int, 59, .inl nw) else if a = o + 2 then .inl (.int, 59, .inl rd) else if a = o + 3 then .inl (.int, 354, .inl ps) else if a = o + 4 then .inl (.int, 118, .inl im) else if a = o + 5 then .inl (.boolean, 2, .inl ik) else if a = o + 6 then .inl (.int, 150, .inl tx) else if a = o + 7 then .inl (.int, 18, .inl fa) else if a = o + 8 then .inl (.int, 6, .inl al) else if a = o + 9 then .inl (.int, 6, .inl be) else if a = o + 10 then .inl (.int, 13, .inl fo) else if a = o + 11 then .inl (.int, 7, .inl io) else w a
section MB
variable {w : gH} {o : Nat} {nw rd ps im ik tx fa al be fo io : Nat → Int32} {de le pz tk ta va se it ln fz fb fm : Int32}
theorem mW_0 : (mW w o nw rd ps de im ik tx le pz tk ta va fa se it al ln fz fb be fo fm io) o = .inr (6, [.ref (o + 1), .ref (o + 2), .ref (o + 3), .int de, .ref (o + 4), .ref (o + 5), .ref (o + 6), .int le, .int pz, .int tk, .int ta, .int va, .ref (o + 7), .int se, .int it, .ref (o + 8), .int ln, .int fz, .int fb, .ref (o + 9), .ref (o + 10), .int fm, .ref (o + 11)]) := by simp [mW]
theorem mW_1 : (mW w o nw rd ps de im ik tx le pz tk ta va fa se it al ln fz fb be fo fm io) (o + 1) = .inl (.int, 59, .inl nw) := by simp [mW]
theorem mW_2 : (mW w o nw rd ps de im ik tx le pz tk ta va fa se it al ln fz fb be fo fm io) (o + 2) = .inl (.int, 59, .inl rd) := by simp [mW]
theorem mW_3 : (mW w o nw rd ps de im ik tx le pz tk ta va fa se it al ln fz fb be fo fm io) (o + 3) = .inl (.int, 354, .inl ps) := by simp [mW]
theorem mW_4 : (mW w o nw rd ps de im ik tx le pz tk ta va fa se it al ln fz fb be fo fm io) (o + 4) = .inl (.int, 118, .inl im) := by simp [mW]
theorem mW_5 : (mW w o nw rd ps de im ik tx le pz tk ta va fa se it al ln fz fb be fo fm io) (o + 5) = .inl (.boolean, 2, .inl ik) := by simp [mW]
theorem mW_6 : (mW w o nw rd ps de im ik tx le pz tk ta va fa se it al ln fz fb be fo fm io) (o + 6) = .inl (.int, 150, .inl tx) := by simp [mW]
theorem mW_7 : (mW w o nw rd ps de im ik tx le pz tk ta va fa se it al ln fz fb be fo fm io) (o + 7) = .inl (.int, 18, .inl fa) := by simp [mW]
theorem mW_8 : (mW w o nw rd ps de im ik tx le pz tk ta va fa se it al ln fz fb be fo fm io) (o + 8) = .inl (.int, 6, .inl al) := by simp [mW]
theorem mW_9 : (mW w o nw rd ps de im ik tx le pz tk ta va fa se it al ln fz fb be fo fm io) (o + 9) = .inl (.int, 6, .inl be) := by simp [mW]
theorem mW_10 : (mW w o nw rd ps de im ik tx le pz tk ta va fa se it al ln fz fb be fo fm io) (o + 10) = .inl (.int, 13, .inl fo) := by simp [mW]
theorem mW_11 : (mW w o nw rd ps de im ik tx le pz tk ta va fa se it al ln fz fb be fo fm io) (o + 11) = .inl (.int, 7, .inl io) := by simp [mW]
theorem mW_p0 {de' le' pz' tk' ta' va' se' it' ln' fz' fb' fm' : Int32} : va_up (mW w o nw rd ps de im ik tx le pz tk ta va fa se it al ln fz fb be fo fm io) o (.inr (6, [.ref (o + 1), .ref (o + 2), .ref (o + 3), .int de', .ref (o + 4), .ref (o + 5), .ref (o + 6), .int le', .int pz', .int tk', .int ta', .int va', .ref (o + 7), .int se', .int it', .ref (o + 8), .int ln', .int fz', .int fb', .ref (o + 9), .ref (o + 10), .int fm', .ref (o + 11)])) = (mW w o nw rd ps de' im ik tx le' pz' tk' ta' va' fa se' it' al ln' fz' fb' be fo fm' io) := by
  funext z
  simp only [mW, va_up]
  by_cases h : z = o <;> simp [h]
theorem mW_p1 {f : Nat → Int32} : va_up (mW w o nw rd ps de im ik tx le pz tk ta va fa se it al ln fz fb be fo fm io) (o + 1) (.inl (.int, 59, .inl f)) = (mW w o f rd ps de im ik tx le pz tk ta va fa se it al ln fz fb be fo fm io) := by
  funext z
  simp only [mW, va_up]
  by_cases h : z = o + 1 <;> simp [h]
theorem mW_p2 {f : Nat → Int32} : va_up (mW w o nw rd ps de im ik tx le pz tk ta va fa se it al ln fz fb be fo fm io) (o + 2) (.inl (.int, 59, .inl f)) = (mW w o nw f ps de im ik tx le pz tk ta va fa se it al ln fz fb be fo fm io) := by
  funext z
  simp only [mW, va_up]
  by_cases h : z = o + 2 <;> simp [h]
theorem mW_p3 {f : Nat → Int32} : va_up (mW w o nw rd ps de im ik tx le pz tk ta va fa se it al ln fz fb be fo fm io) (o + 3) (.inl (.int, 354, .inl f)) = (mW w o nw rd f de im ik tx le pz tk ta va fa se it al ln fz fb be fo fm io) := by
  funext z
  simp only [mW, va_up]
  by_cases h : z = o + 3 <;> simp [h]
theorem mW_p4 {f : Nat → Int32} : va_up (mW w o nw rd ps de im ik tx le pz tk ta va fa se it al ln fz fb be fo fm io) (o + 4) (.inl (.int, 118, .inl f)) = (mW w o nw rd ps de f ik tx le pz tk ta va fa se it al ln fz fb be fo fm io) := by
  funext z
  simp only [mW, va_up]
  by_cases h : z = o + 4 <;> simp [h]
theorem mW_p5 {f : Nat → Int32} : va_up (mW w o nw rd ps de im ik tx le pz tk ta va fa se it al ln fz fb be fo fm io) (o + 5) (.inl (.boolean, 2, .inl f)) = (mW w o nw rd ps de im f tx le pz tk ta va fa se it al ln fz fb be fo fm io) := by
  funext z
  simp only [mW, va_up]
  by_cases h : z = o + 5 <;> simp [h]
theorem mW_p6 {f : Nat → Int32} : va_up (mW w o nw rd ps de im ik tx le pz tk ta va fa se it al ln fz fb be fo fm io) (o + 6) (.inl (.int, 150, .inl f)) = (mW w o nw rd ps de im ik f le pz tk ta va fa se it al ln fz fb be fo fm io) := by
  funext z
  simp only [mW, va_up]
  by_cases h : z = o + 6 <;> simp [h]
theorem mW_p7 {f : Nat → Int32} : va_up (mW w o nw rd ps de im ik tx le pz tk ta va fa se it al ln fz fb be fo fm io) (o + 7) (.inl (.int, 18, .inl f)) = (mW w o nw rd ps de im ik tx le pz tk ta va f se it al ln fz fb be fo fm io) := by
  funext z
  simp only [mW, va_up]
  by_cases h : z = o + 7 <;> simp [h]
theorem mW_p8 {f : Nat → Int32} : va_up (mW w o nw rd ps de im ik tx le pz tk ta va fa se it al ln fz fb be fo fm io) (o + 8) (.inl (.int, 6, .inl f)) = (mW w o nw rd ps de im ik tx le pz tk ta va fa se it f ln fz fb be fo fm io) := by
  funext z
  simp only [mW, va_up]
  by_cases h : z = o + 8 <;> simp [h]
theorem mW_p9 {f : Nat → Int32} : va_up (mW w o nw rd ps de im ik tx le pz tk ta va fa se it al ln fz fb be fo fm io) (o + 9) (.inl (.int, 6, .inl f)) = (mW w o nw rd ps de im ik tx le pz tk ta va fa se it al ln fz fb f fo fm io) := by
  funext z
  simp only [mW, va_up]
  by_cases h : z = o + 9 <;> simp [h]
theorem mW_p10 {f : Nat → Int32} : va_up (mW w o nw rd ps de im ik tx le pz tk ta va fa se it al ln fz fb be fo fm io) (o + 10) (.inl (.int, 13, .inl f)) = (mW w o nw rd ps de im ik tx le pz tk ta va fa se it al ln fz fb be f fm io) := by
  funext z
  simp only [mW, va_up]
  by_cases h : z = o + 10 <;> simp [h]
theorem mW_p11 {f : Nat → Int32} : va_up (mW w o nw rd ps de im ik tx le pz tk ta va fa se it al ln fz fb be fo fm io) (o + 11) (.inl (.int, 7, .inl f)) = (mW w o nw rd ps de im ik tx le pz tk ta va fa se it al ln fz fb be fo fm f) := by
  funext z
  simp only [mW, va_up]
  by_cases h : z = o + 11 <;> simp [h]
theorem mW_ne {a : Nat} (h : a < o ∨ o + 11 < a) : (mW w o nw rd ps de im ik tx le pz tk ta va fa se it al ln fz fb be fo fm io) a = w a := by
  unfold mW
  rw [if_neg (by omega), if_neg (by omega), if_neg (by omega), if_neg (by omega), if_neg (by omega), if_neg (by omega), if_neg (by omega), if_neg (by omega), if_neg (by omega), if_neg (by omega), if_neg (by omega), if_neg (by omega)]
theorem mW_w {w' : gH} (h : ∀ a, a < o ∨ o + 11 < a → w a = w' a) : (mW w o nw rd ps de im ik tx le pz tk ta va fa se it al ln fz fb be fo fm io) = (mW w' o nw rd ps de im ik tx le pz tk ta va fa se it al ln fz fb be fo fm io) := by
  funext z
  by_cases hz : z < o ∨ o + 11 < z
  · rw [mW_ne hz, mW_ne hz, h z hz]
  · unfold mW
    obtain ⟨i, hi, rfl⟩ : ∃ i, i ≤ 11 ∧ z = o + i := ⟨z - o, by omega, by omega⟩
    have : i = 0 ∨ i = 1 ∨ i = 2 ∨ i = 3 ∨ i = 4 ∨ i = 5 ∨ i = 6 ∨ i = 7 ∨ i = 8 ∨ i = 9 ∨ i = 10 ∨ i = 11 := by omega
    rcases this with rfl | rfl | rfl | rfl | rfl | rfl | rfl | rfl | rfl | rfl | rfl | rfl <;> simp
end MB
