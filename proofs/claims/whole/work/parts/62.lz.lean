/-! where a call throws nothing has changed; what a call of a boolean answers -/
section ZB
variable {cn cw : Nat} {σ : Ab}
theorem z_join (x xp xd xp2 xd2 : Int32) : (spJoin cn σ x xp xd xp2 xd2).1 ≠ 0 → (spJoin cn σ x xp xd xp2 xd2).2.2 = σ := by
  unfold spJoin
  repeat' split
  all_goals first | exact fun _ => rfl | exact fun h => absurd rfl h
theorem n_join (x xp xd xp2 xd2 : Int32) : (spJoin cn σ x xp xd xp2 xd2).1 ≠ 2 := by
  unfold spJoin
  repeat' split
  all_goals (dsimp only; omega)
theorem b_join (x xp xd xp2 xd2 : Int32) : (spJoin cn σ x xp xd xp2 xd2).2.1 = 0 ∨ (spJoin cn σ x xp xd xp2 xd2).2.1 = 1 := by
  unfold spJoin
  repeat' split
  all_goals first | exact Or.inl rfl | exact Or.inr rfl
theorem z_leads (x xp xd : Int32) : (spLeads cn σ x xp xd).1 ≠ 0 → (spLeads cn σ x xp xd).2.2 = σ := by
  unfold spLeads
  repeat' split
  all_goals first | exact fun _ => rfl | exact fun h => absurd rfl h
theorem n_leads (x xp xd : Int32) : (spLeads cn σ x xp xd).1 ≠ 2 := by
  unfold spLeads
  repeat' split
  all_goals (dsimp only; omega)
theorem z_mark (x xp : Int32) (xb : Bool) : (spMark cn σ x xp xb).1 ≠ 0 → (spMark cn σ x xp xb).2.2 = σ := by
  unfold spMark
  repeat' split
  all_goals first | exact fun _ => rfl | exact fun h => absurd rfl h
theorem n_mark (x xp : Int32) (xb : Bool) : (spMark cn σ x xp xb).1 ≠ 2 := by
  unfold spMark
  repeat' split
  all_goals (dsimp only; omega)
theorem b_mark (x xp : Int32) (xb : Bool) : (spMark cn σ x xp xb).2.1 = 0 ∨ (spMark cn σ x xp xb).2.1 = 1 := by
  unfold spMark
  repeat' split
  all_goals first | exact Or.inl rfl | exact Or.inr rfl
theorem z_alike (x xp : Int32) : (spAlike cn σ x xp).1 ≠ 0 → (spAlike cn σ x xp).2.2 = σ := by
  unfold spAlike
  repeat' split
  all_goals first | exact fun _ => rfl | exact fun h => absurd rfl h
theorem n_alike (x xp : Int32) : (spAlike cn σ x xp).1 ≠ 2 := by
  unfold spAlike
  repeat' split
  all_goals (dsimp only; omega)
theorem z_set (x xp xd xv : Int32) : (spSet cw σ x xp xd xv).1 ≠ 0 → (spSet cw σ x xp xd xv).2.2 = σ := by
  unfold spSet
  repeat' split
  all_goals first | exact fun _ => rfl | exact fun h => absurd rfl h
theorem b_set (x xp xd xv : Int32) : (spSet cw σ x xp xd xv).2.1 = 0 ∨ (spSet cw σ x xp xd xv).2.1 = 1 := by
  unfold spSet
  repeat' split
  all_goals first | exact Or.inl rfl | exact Or.inr rfl
theorem z_spread (x xv : Int32) : (spSpread cw σ x xv).1 ≠ 0 → (spSpread cw σ x xv).2.2 = σ := by
  unfold spSpread
  repeat' split
  all_goals first | exact fun _ => rfl | exact fun h => absurd rfl h
theorem z_step (x xn : Int32) : (spStep cw σ x xn).1 ≠ 0 → (spStep cw σ x xn).2.2 = σ := by
  unfold spStep
  repeat' split
  all_goals first | exact fun _ => rfl | exact fun h => absurd rfl h
theorem z_back (x xn : Int32) : (spBack cw σ x xn).1 ≠ 0 → (spBack cw σ x xn).2.2 = σ := by
  unfold spBack
  repeat' split
  all_goals first | exact fun _ => rfl | exact fun h => absurd rfl h
theorem z_at (x xp xd : Int32) : (spAt cw σ x xp xd).1 ≠ 0 → (spAt cw σ x xp xd).2.2 = σ := by
  unfold spAt
  repeat' split
  all_goals first | exact fun _ => rfl | exact fun h => absurd rfl h
theorem n_at (x xp xd : Int32) : (spAt cw σ x xp xd).1 ≠ 2 := by
  unfold spAt
  repeat' split
  all_goals (dsimp only; omega)
theorem z_share (x xp : Int32) : (spShare cw σ x xp).1 ≠ 0 → (spShare cw σ x xp).2.2 = σ := by
  unfold spShare
  repeat' split
  all_goals first | exact fun _ => rfl | exact fun h => absurd rfl h
theorem n_share (x xp : Int32) : (spShare cw σ x xp).1 ≠ 2 := by
  unfold spShare
  repeat' split
  all_goals (dsimp only; omega)
theorem z_of (x xw : Int32) : (spOf cw σ x xw).1 ≠ 0 → (spOf cw σ x xw).2.2 = σ := by
  unfold spOf
  repeat' split
  all_goals first | exact fun _ => rfl | exact fun h => absurd rfl h
theorem n_of (x xw : Int32) : (spOf cw σ x xw).1 ≠ 2 := by
  unfold spOf
  repeat' split
  all_goals (dsimp only; omega)
theorem z_arrives (x xp xn : Int32) : (spArr cw σ x xp xn).1 ≠ 0 → (spArr cw σ x xp xn).2.2 = σ := by
  unfold spArr
  repeat' split
  all_goals first | exact fun _ => rfl | exact fun h => absurd rfl h
theorem z_returns (x xn : Int32) : (spRet cw σ x xn).1 ≠ 0 → (spRet cw σ x xn).2.2 = σ := by
  unfold spRet
  repeat' split
  all_goals first | exact fun _ => rfl | exact fun h => absurd rfl h
theorem z_best (x xn : Int32) : (spBest cw σ x xn).1 ≠ 0 → (spBest cw σ x xn).2.2 = σ := by
  unfold spBest
  repeat' split
  all_goals first | exact fun _ => rfl | exact fun h => absurd rfl h
theorem z_mean (x xp xn : Int32) : (spMean cw σ x xp xn).1 ≠ 0 → (spMean cw σ x xp xn).2.2 = σ := by
  unfold spMean
  repeat' split
  all_goals first | exact fun _ => rfl | exact fun h => absurd rfl h
theorem z_copy (x xv : Int32) : (spCopy cw σ x xv).1 ≠ 0 → (spCopy cw σ x xv).2.2 = σ := by
  unfold spCopy
  repeat' split
  all_goals first | exact fun _ => rfl | exact fun h => absurd rfl h
theorem z_count (x : Int32) : (spCount cn cw σ x).1 ≠ 0 → (spCount cn cw σ x).2.2 = σ := by
  unfold spCount
  repeat' split
  all_goals first | exact fun _ => rfl | exact fun h => absurd rfl h
theorem n_count (x : Int32) : (spCount cn cw σ x).1 ≠ 2 := by
  unfold spCount
  repeat' split
  all_goals (dsimp only; omega)
theorem tb {v : Int32} {a : Int64} (h : a = v.toInt64) (hb : a = 0 ∨ a = 1) : (v = 0 → a = 0) ∧ (¬ v = 0 → a = 1) := by
  refine ⟨fun z => by rw [h, z]; rfl, fun z => hb.resolve_left (fun y => z ?_)⟩
  rw [y] at h
  have := congrArg Int64.toInt h
  rw [Int32.toInt_toInt64] at this
  exact Int32.toInt_inj.mp this.symm
end ZB
