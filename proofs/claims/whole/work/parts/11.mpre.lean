theorem mIx {ax en : Int32} (h0 : ¬ ax < 0) (hE : en ≤ 240) (c : ¬ en ≤ ax) : vp_in ax 240 := kIn (by decide) h0 (fun q => c (Int32.le_trans hE q))
theorem mBack (ax : Int32) : ax + 1 - 1 = ax := by rw [Int32.sub_eq_add_neg, Int32.add_assoc, Int32.add_neg_eq_sub, Int32.sub_self, Int32.add_zero]
theorem mIx1 {ax en : Int32} (h0 : ¬ ax < 0) (hE : en ≤ 240) (c : ¬ en ≤ ax) : vp_in (ax + 1 - 1) 240 := by rw [mBack]; exact mIx h0 hE c
theorem mV0 {N : Nat} (h : 0 < N) (hN : N < 2 ^ 31) : vp_in 0 N := vp_in_nI (n := 0) h hN
theorem mNat {x : Int32} {N R : Nat} (h : x = nI R) (hR : R < N) (hN : N < 2 ^ 31) : vp_in x N := by rw [h]; exact vp_in_nI hR hN
theorem mNat1 {x : Int32} {N R : Nat} (h : x = nI R) (hR : R < N) (hN : N < 2 ^ 31) : vp_in (x + 1 - 1) N := by rw [mBack]; exact mNat h hR hN
theorem mCellI {sh i : Int32} {S a : Nat} (es : sh = nI S) (ei : i = nI a) (hS : S < 4) (ha : a < 60) : 60 * sh + i = nI (60 * S + a) ∧ vp_in (60 * sh + i) 240 := by
  have h60 : (60 : Int32) = nI 60 := rfl
  have e : 60 * sh + i = nI (60 * S + a) := by rw [es, ei, h60, pk_mul, nI_add]
  exact ⟨e, by rw [e]; exact vp_in_nI (by omega) (by decide)⟩
theorem mCellK {sh i nn : Int32} {S a b k : Nat} (es : sh = nI S) (ei : i = nI a) (en : nn = nI b) (hS : S < 4) (hab : a + b ≤ 60) (hk : k < nn.toNatClampNeg) : vp_in (60 * sh + i + nI k) 240 := by
  have h60 : (60 : Int32) = nI 60 := rfl
  rw [en, nI_clamp (by omega)] at hk
  rw [es, ei, h60, pk_mul, nI_add, nI_add]
  exact vp_in_nI (by omega) (by decide)
theorem mSz {S k : Nat} (hS : S < 64) (c : ¬ nI (S / 2 ^ k) ≤ 0) : k < 7 := by
  rcases Nat.lt_or_ge k 7 with h | h
  · exact h
  · refine absurd ?_ c
    have h2 : S / 2 ^ k = 0 := Nat.div_eq_of_lt (Nat.lt_of_lt_of_le hS (Nat.le_trans (by decide : 64 ≤ 2 ^ 7) (Nat.pow_le_pow_right (by decide) h)))
    rw [h2]; decide
theorem mShr {S k : Nat} (hS : S < 64) : nI (S / 2 ^ k) >>> (1 &&& 31) = nI (S / 2 ^ (k + 1)) := by
  rw [pk_shrN (k := 1) (Nat.lt_of_le_of_lt (Nat.div_le_self _ _) (by omega)) _ (by decide), Nat.div_div_eq_div_mul, ← Nat.pow_add]
