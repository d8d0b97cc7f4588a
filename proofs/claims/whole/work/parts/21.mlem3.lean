theorem mSetC {an se : Int32} {N : Nat} (ha : an = nI N) (hN : N ≤ 6) (c : ¬ fX4_isSet an se = 0) : se = nI se.toNatClampNeg ∧ se.toNatClampNeg < 64 := by
  obtain ⟨S, rfl, hS⟩ := mSet ha hN c
  have hb := mP2b hN
  rw [nI_clamp (by omega)]
  exact ⟨rfl, by omega⟩
theorem mL {x : Int32} {n : Nat} (h : x = nI n) (hn : n < 2 ^ 31) : Int32.toInt64 x = lN n := by rw [h]; exact nI_l hn
theorem mPos {an : Int32} {N : Nat} (ha : an = nI N) (c : ¬ an = 0) : 0 < N := by
  rcases Nat.eq_zero_or_pos N with h | h
  · exact absurd (by rw [ha, h]; rfl) c
  · exact h
theorem mStep1 {v : Int32} {k : Nat} (h : v = nI v.toNatClampNeg ∧ v.toNatClampNeg ≤ k) (hk : k < 100) : v + 1 = nI (v + 1).toNatClampNeg ∧ (v + 1).toNatClampNeg ≤ k + 1 := by
  obtain ⟨h1, h2⟩ := h
  generalize v.toNatClampNeg = j at h1 h2
  subst h1
  rw [nI_1, nI_clamp (by omega)]
  exact ⟨rfl, by omega⟩
theorem mStep0 {v : Int32} {k : Nat} (h : v = nI v.toNatClampNeg ∧ v.toNatClampNeg ≤ k) : v + 0 = nI (v + 0).toNatClampNeg ∧ (v + 0).toNatClampNeg ≤ k + 1 := by
  rw [Int32.add_zero]
  exact ⟨h.1, by omega⟩
theorem mCellZ {sh : Int32} {k : Nat} (hsh : vp_in sh 4) (hk : k < 60) : vp_in (60 * sh + nI k) 240 := by
  obtain ⟨S, hS, rfl⟩ := vp_in_of hsh (by decide)
  rw [show (60 : Int32) = nI 60 from rfl, pk_mul, nI_add]
  exact vp_in_nI (by omega) (by decide)
theorem mFst {sh i nn : Int32} {S a b : Nat} (es : sh = nI S) (ei : i = nI a) (en : nn = nI b) (hS : S < 4) (hab : a + b ≤ 60) : ¬ 60 * sh + i < 0 ∧ 60 * sh + i + nn ≤ 240 := by
  rw [es, ei, en, show (60 : Int32) = nI 60 from rfl, pk_mul, nI_add, nI_add, show (240 : Int32) = nI 240 from rfl, nI_leI (by omega) (by decide)]
  exact ⟨nI_pos (by omega), by omega⟩
theorem mCellD {sh i nn : Int32} {S a d k : Nat} (es : sh = nI S) (ei : i = nI a) (en : nn = nI d) (hS : S < 4) (hab : a + d ≤ 60) (hk : k < nn.toNatClampNeg) : vp_in (60 * sh + i + (nn - 1 - nI k)) 240 := by
  rw [en, nI_clamp (by omega)] at hk
  rw [es, ei, en, show (60 : Int32) = nI 60 from rfl, show (1 : Int32) = nI 1 from rfl, pk_mul, nI_add, pk_sub (by omega), pk_sub (by omega), nI_add]
  exact vp_in_nI (by omega) (by decide)
theorem mCp {sl : Nat → Int32} {sh oh i j nn : Int32} (hsl : ∀ j, j < 4 → ∃ L : Nat, sl j = nI L ∧ L ≤ 60) (hsh : vp_in sh 4) (hoh : vp_in oh 4) (c1 : ¬ i < 0) (c2 : ¬ j < 0) (c3 : ¬ nn < 0) (c4 : ¬ sl sh.toNatClampNeg < i) (c5 : ¬ sl oh.toNatClampNeg < j) (c6 : ¬ sl sh.toNatClampNeg - i < nn) (c7 : nn ≤ sl oh.toNatClampNeg - j) :
    ∃ S O a b d : Nat, sh = nI S ∧ oh = nI O ∧ i = nI a ∧ j = nI b ∧ nn = nI d ∧ S < 4 ∧ O < 4 ∧ a + d ≤ 60 ∧ b + d ≤ 60 := by
  obtain ⟨S, hS, rfl⟩ := vp_in_of hsh (by decide)
  obtain ⟨O, hO, rfl⟩ := vp_in_of hoh (by decide)
  obtain ⟨L1, h1, h2⟩ := hsl S hS
  obtain ⟨L2, h3, h4⟩ := hsl O hO
  obtain ⟨a, ha, rfl⟩ := nI_of c1
  obtain ⟨b, hb, rfl⟩ := nI_of c2
  obtain ⟨d, hd, rfl⟩ := nI_of c3
  rw [nI_clamp (by omega), h1] at c4 c6
  rw [nI_clamp (by omega), h3] at c5 c7
  rw [nI_ltI (by omega) ha] at c4
  rw [nI_ltI (by omega) hb] at c5
  rw [pk_sub (by omega), nI_ltI (by omega) hd] at c6
  rw [pk_sub (by omega), nI_leI hd (by omega)] at c7
  exact ⟨S, O, a, b, d, rfl, rfl, rfl, rfl, rfl, hS, hO, by omega, by omega⟩
theorem mLc {Y : Nat} (hY : Y < 2 ^ 31) (c : ¬ lg_cmp (lN Y) 0 = 0) : 0 < Y := by
  rcases Nat.eq_zero_or_pos Y with h | h
  · exact absurd (by rw [h]; rfl) c
  · exact h
theorem mLn {Y : Nat} (h0 : 0 < Y) (hY : Y < 2 ^ 31) : ¬ lN Y = 0 := by
  intro h
  have := (lN_eq (a := Y) (b := 0) hY (by decide)).mp h
  omega
theorem mLx {X Y : Nat} (hY : Y < 2 ^ 31) (h : 0 < X + Y) (hX : X < 2 ^ 31) (c : lg_cmp (lN Y) 0 = 0) : 0 < X ∧ X < 2 ^ 31 := by
  rcases Nat.eq_zero_or_pos Y with q | q
  · omega
  · exfalso
    have h1 : ¬ lN Y < lN 0 := by rw [lN_lt hY (by decide)]; omega
    have h2 : ¬ lN Y = lN 0 := by rw [lN_eq hY (by decide)]; omega
    have h3 : ¬ lN Y < 0 := h1
    have h4 : ¬ lN Y = 0 := h2
    unfold lg_cmp at c
    rw [if_neg h4] at c
    split at c <;> cases c
