theorem mRA {ax ra : Int32} {ces xk xp : Nat → Int32} {en : Int32} {k : Nat} (c : ¬ (fX4_readAnswer ax ra ces xk xp en).1 = 0) (h : ra = nI k) : (fX4_readAnswer ax ra ces xk xp en).2.2.1 = nI (k + 1) := by
  revert c
  unfold fX4_readAnswer
  repeat' split
  all_goals intro c
  all_goals first | exact absurd rfl c | (show ra + 1 = nI (k + 1); rw [h]; exact nI_1 k)
theorem mRAx {ax ra : Int32} {ces xk xp : Nat → Int32} {en : Int32} (h0 : ¬ ax < 0) (hE : en ≤ 240) : ¬ (fX4_readAnswer ax ra ces xk xp en).2.1 < 0 := by
  unfold fX4_readAnswer
  repeat' split
  all_goals dsimp only
  all_goals first | with_reducible exact h0 | with_reducible exact mInc h0 hE (by assumption) | with_reducible exact mDg (mInc h0 hE (by assumption)) hE
theorem mZk {v : Int32} {k : Nat} (h : v = nI k) (hk : k ≤ 5) (c : v = 0) : k < 5 := by
  rcases Nat.eq_zero_or_pos k with q | q
  · omega
  · rw [h] at c; exact absurd c (nI_ne0 q (by omega))
