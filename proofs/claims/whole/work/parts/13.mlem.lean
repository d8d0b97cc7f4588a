theorem mOr (a b : Nat) : nI a ||| nI b = nI (a ||| b) := by
  apply Int32.toBitVec_inj.1
  show BitVec.ofNat 32 a ||| BitVec.ofNat 32 b = BitVec.ofNat 32 (a ||| b)
  apply BitVec.eq_of_getLsbD_eq
  intro i hi
  simp [hi]
theorem mAnd (a b : Nat) : nI a &&& nI b = nI (a &&& b) := by
  apply Int32.toBitVec_inj.1
  show BitVec.ofNat 32 a &&& BitVec.ofNat 32 b = BitVec.ofNat 32 (a &&& b)
  apply BitVec.eq_of_getLsbD_eq
  intro i hi
  simp [hi]
theorem mP2f : ∀ i : Fin 7, (1 : Int32) <<< (nI i.val &&& 31) = nI (2 ^ i.val) := by decide +kernel
theorem mP2 {k : Nat} (h : k ≤ 6) : (1 : Int32) <<< (nI k &&& 31) = nI (2 ^ k) := mP2f ⟨k, by omega⟩
theorem mP2b {k : Nat} (h : k ≤ 6) : 2 ^ k ≤ 64 := Nat.le_trans (Nat.pow_le_pow_right (by decide) h) (by decide)
theorem mAll {an : Int32} {N : Nat} (ha : an = nI N) (hN : N ≤ 6) : (1 : Int32) <<< (an &&& 31) - 1 = nI (2 ^ N - 1) := by
  rw [ha, mP2 hN]
  obtain ⟨d, hd⟩ : ∃ d, 2 ^ N = d + 1 := ⟨2 ^ N - 1, by have := Nat.pow_pos (a := 2) (n := N) (by decide); omega⟩
  rw [hd, nI_pred]; rfl
theorem mAnsJ {an x : Int32} {N : Nat} (ha : an = nI N) (hN : N ≤ 6) (c : ¬ fX4_isAnswer an x = 0) : ∃ j, j < N ∧ x = nI j := by
  unfold fX4_isAnswer at c
  by_cases c1 : x < 0
  · rw [if_pos c1] at c; exact absurd rfl c
  · rw [if_neg c1] at c
    by_cases c2 : an ≤ x
    · rw [if_pos c2] at c; exact absurd rfl c
    · obtain ⟨j, hj, rfl⟩ := nI_of c1
      rw [ha, nI_leI (by omega) hj] at c2
      exact ⟨j, by omega, rfl⟩
theorem mAns {an x : Int32} {N : Nat} (ha : an = nI N) (hN : N ≤ 6) (c : ¬ fX4_isAnswer an x = 0) : vp_in x 6 := by
  obtain ⟨j, hj, rfl⟩ := mAnsJ ha hN c
  exact vp_in_nI (by omega) (by decide)
theorem mGrS (kd pl : Nat → Int32) {N : Nat} (hN : N ≤ 6) (x v se : Int32) : ∃ a, a < 64 ∧ fX4_group kd pl N x v se = nI a := by
  unfold fX4_group aX4_group_6
  have h : ∀ k, k ≤ N → ∃ a, a < 64 ∧ lp (fun k a => sX4_group_6 kd pl x v se k a) 0 k = nI a := by
    intro k
    induction k with
    | zero => intro _; exact ⟨0, by decide, rfl⟩
    | succ k ih =>
      intro hk
      obtain ⟨a, h1, h2⟩ := ih (by omega)
      have h3 : (2 : Nat) ^ k < 2 ^ 6 := Nat.pow_lt_pow_right (by decide) (by omega)
      have h0 : nI a ||| 0 = nI a := by rw [show (0 : Int32) = nI 0 from rfl, mOr, Nat.or_zero]
      show ∃ b, b < 64 ∧ sX4_group_6 kd pl x v se k (lp (fun k a => sX4_group_6 kd pl x v se k a) 0 k) = nI b
      rw [h2]
      unfold sX4_group_6
      split
      · split
        · exact ⟨a ||| 2 ^ k, Nat.or_lt_two_pow (n := 6) h1 h3, by rw [mP2 (by omega), mOr]⟩
        · exact ⟨a, h1, h0⟩
      · exact ⟨a, h1, h0⟩
  exact h N (Nat.le_refl _)
theorem mGr {kd pl : Nat → Int32} {N : Nat} (hN : N ≤ 6) {x v se : Int32} : vp_in (fX4_group kd pl N x v se) 64 := by
  obtain ⟨a, h1, h2⟩ := mGrS kd pl hN x v se
  rw [h2]; exact vp_in_nI h1 (by decide)
theorem mInc {ax en : Int32} (h0 : ¬ ax < 0) (hE : en ≤ 240) (c : ¬ en ≤ ax) : ¬ ax + 1 < 0 := by
  have h := mIx h0 hE c
  obtain ⟨j, hj, rfl⟩ := vp_in_of h (by decide)
  rw [nI_1]; exact nI_pos (by omega)
theorem mSg {ax en co : Int32} {ces : Nat → Int32} (h0 : ¬ ax < 0) (hE : en ≤ 240) : ¬ (fX4_isSign ax ces en co).2 < 0 := by
  unfold fX4_isSign
  split
  · exact h0
  · rename_i c
    split
    · exact mInc h0 hE c
    · exact h0
theorem mDg {ax en mi : Int32} {ces : Nat → Int32} (h0 : ¬ ax < 0) (hE : en ≤ 240) : ¬ (fX4_digit ax ces en mi).2 < 0 := by
  unfold fX4_digit
  split
  · exact h0
  · rename_i c
    split
    · exact h0
    · exact mInc h0 hE c
theorem mWith {v : Int32} (M : Nat) (hM : M < 2 ^ 31) (h : ¬ fX4_within v 0 (nI M) = 0) : v = nI v.toNatClampNeg ∧ v.toNatClampNeg ≤ M := by
  unfold fX4_within at h
  by_cases c1 : v < 0
  · rw [if_pos c1] at h; exact absurd rfl h
  · rw [if_neg c1] at h
    by_cases c2 : nI M < v
    · rw [if_pos c2] at h; exact absurd rfl h
    · obtain ⟨j, hj, rfl⟩ := nI_of c1
      rw [nI_clamp hj]
      rw [nI_ltI hM hj] at c2
      exact ⟨rfl, by omega⟩
theorem mSh {sh : Int32} (h : ¬ fX4_isSheet sh = 0) : vp_in sh 4 := by
  obtain ⟨e, h2⟩ := mWith 3 (by decide) h
  rw [e]; exact vp_in_nI (by omega) (by decide)
theorem mAg {so sl : Nat → Int32} {sh ln i nn : Int32} (hsl : ∀ j, j < 4 → ∃ L : Nat, sl j = nI L ∧ L ≤ 60) (hsh : vp_in sh 4) (c : fX4_against so sl sh ln i nn = 0) : ∃ S a b L : Nat, sh = nI S ∧ i = nI a ∧ nn = nI b ∧ S < 4 ∧ a + b ≤ 60 ∧ sl S = nI L ∧ L ≤ 60 ∧ a + b ≤ L := by
  obtain ⟨S, hS, rfl⟩ := vp_in_of hsh (by decide)
  obtain ⟨L, hL, hL60⟩ := hsl S hS
  unfold fX4_against at c
  rw [nI_clamp (by omega), hL] at c
  split at c
  · cases c
  · split at c
    · split at c
      · rename_i c3
        split at c
        · cases c
        · rename_i c4
          split at c
          · cases c
          · rename_i c5
            split at c
            · rename_i c6
              obtain ⟨a, ha, rfl⟩ := nI_of c4
              obtain ⟨b, hb, rfl⟩ := nI_of (Int32.not_lt.mpr c3)
              rw [nI_ltI (by omega) ha] at c5
              rw [pk_sub (by omega), nI_leI hb (by omega)] at c6
              exact ⟨S, a, b, L, rfl, rfl, rfl, hS, by omega, hL, hL60, by omega⟩
            · cases c
      · cases c
    · cases c
theorem mSet {an se : Int32} {N : Nat} (ha : an = nI N) (hN : N ≤ 6) (c : ¬ fX4_isSet an se = 0) : ∃ S, se = nI S ∧ S < 2 ^ N := by
  unfold fX4_isSet at c
  by_cases c1 : se < 0
  · rw [if_pos c1] at c; exact absurd rfl c
  · rw [if_neg c1, ha, mP2 hN] at c
    have hb := mP2b hN
    by_cases c2 : nI (2 ^ N) ≤ se
    · rw [if_pos c2] at c; exact absurd rfl c
    · obtain ⟨j, hj, rfl⟩ := nI_of c1
      rw [nI_leI (by omega) hj] at c2
      exact ⟨j, rfl, by omega⟩
theorem mRd {rd : Int32} {R : Nat} (h : rd = nI R) (hR : R ≤ 8) (c : ¬ rd = 8) : vp_in rd 8 := by
  have h2 : R ≠ 8 := fun e => c (by rw [h, e]; rfl)
  rw [h]; exact vp_in_nI (by omega) (by decide)
theorem mPt {sh i : Int32} {sl : Nat → Int32} (hsl : ∀ j, j < 4 → ∃ L : Nat, sl j = nI L ∧ L ≤ 60) (hsh : vp_in sh 4) (c : ¬ fX4_within i 0 (sl sh.toNatClampNeg - 1) = 0) : vp_in (60 * sh + i) 240 ∧ ∃ S a L : Nat, sh = nI S ∧ i = nI a ∧ S < 4 ∧ sl S = nI L ∧ L ≤ 60 ∧ a < L := by
  obtain ⟨S, hS, rfl⟩ := vp_in_of hsh (by decide)
  obtain ⟨L, hL, hL60⟩ := hsl S hS
  rw [nI_clamp (by omega), hL] at c
  rcases Nat.eq_zero_or_pos L with h0 | h0
  · subst h0
    unfold fX4_within at c
    by_cases c1 : i < 0
    · rw [if_pos c1] at c; exact absurd rfl c
    · rw [if_neg c1] at c
      obtain ⟨j, hj, rfl⟩ := nI_of c1
      have : nI 0 - 1 < nI j := Int32.lt_of_lt_of_le (by decide : nI 0 - 1 < 0) (nI_pos' hj)
      rw [if_pos this] at c; exact absurd rfl c
  · obtain ⟨d, rfl⟩ : ∃ d, L = d + 1 := ⟨L - 1, by omega⟩
    rw [nI_pred] at c
    obtain ⟨e, h2⟩ := mWith d (by omega) c
    exact ⟨(mCellI rfl e hS (by omega)).2, S, _, d + 1, rfl, e, hS, hL, hL60, by omega⟩
