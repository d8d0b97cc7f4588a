theorem kWithin {v : Int32} (M : Nat) (hM : M < 2 ^ 31) (h : ¬ fX3_within v (nI M) = 0) : v = nI v.toNatClampNeg ∧ v.toNatClampNeg ≤ M := by
  unfold fX3_within at h
  by_cases c1 : v < 0
  · rw [if_pos c1] at h; exact absurd rfl h
  · rw [if_neg c1] at h
    by_cases c2 : nI M < v
    · rw [if_pos c2] at h; exact absurd rfl h
    · obtain ⟨j, hj, rfl⟩ := nI_of c1
      rw [nI_clamp hj]
      rw [nI_ltI hM hj] at c2
      exact ⟨rfl, by omega⟩
theorem kRange {v : Int32} (h0 : 0 ≤ v) (h1 : v ≤ 60) : v = nI v.toNatClampNeg ∧ v.toNatClampNeg ≤ 60 := by
  obtain ⟨j, hj, rfl⟩ := nI_of2 (M := 60) (n := 60) rfl (Int32.not_lt.mpr h0) h1
  rw [nI_clamp (by omega)]
  exact ⟨rfl, hj⟩
theorem kHas2 {le i nn : Int32} {Le : Nat} (hle : le = nI Le) (hLe : Le < 2 ^ 31) (h : ¬ fX2_hasCells le i nn = 0) : ∃ a b : Nat, i = nI a ∧ nn = nI b ∧ a + b ≤ Le := by
  subst hle
  unfold fX2_hasCells at h
  by_cases c1 : fX3_within i (nI Le) = 0
  · rw [if_pos c1] at h; exact absurd rfl h
  · rw [if_neg c1] at h
    obtain ⟨e1, e2⟩ := kWithin Le hLe c1
    by_cases c2 : fX3_within nn (nI Le - i) = 0
    · rw [if_pos c2] at h; exact absurd rfl h
    · rw [e1, pk_sub e2] at c2
      obtain ⟨e3, e4⟩ := kWithin (Le - i.toNatClampNeg) (by omega) c2
      exact ⟨_, _, e1, e3, by omega⟩
theorem kHas {le i nn : Int32} {Le : Nat} (hle : le = nI Le) (hLe : Le ≤ 60) (h : ¬ fX2_hasCells le i nn = 0) : nn = nI nn.toNatClampNeg ∧ nn.toNatClampNeg ≤ 60 := by
  obtain ⟨a, b, e1, e2, e3⟩ := kHas2 hle (by omega) h
  subst e2
  rw [nI_clamp (by omega)]
  exact ⟨rfl, by omega⟩
