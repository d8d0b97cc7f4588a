theorem eA (an x : Int32) : fX3_isAnswer an x = fX4_isAnswer an x := rfl
theorem eW (v mo : Int32) : fX3_within v mo = fX4_within v 0 mo := rfl
theorem atN {M : Nat} {f : Nat → Int32} {j : Nat} (h : j < M) (hM : M < 2 ^ 31) : fX3_at M f (nI j) = f j := by
  unfold fX3_at
  rw [if_neg (nI_pos (by omega)), if_neg (nI_ge h hM), nI_clamp (by omega)]
theorem wrN {M : Nat} {f : Nat → Int32} {j : Nat} {v : Int32} (h : j < M) (hM : M < 2 ^ 31) : fX3_write M f (nI j) v = upd f j v := by
  unfold fX3_write
  rw [if_neg (nI_pos (by omega)), if_neg (nI_ge h hM), nI_clamp (by omega)]
theorem rA_kd {N : Nat} {an : Int32} {kd pl mkd mpl : Nat → Int32} (h : rA N an kd pl mkd mpl) {j : Nat} (hj : j < N) : mkd j = kd j := (h.2.2 j hj).1
theorem rA_pl {N : Nat} {an : Int32} {kd pl mkd mpl : Nat → Int32} (h : rA N an kd pl mkd mpl) {j : Nat} (hj : j < N) : mpl j = pl j := (h.2.2 j hj).2.1
theorem rA_6 {N : Nat} {an : Int32} {kd pl mkd mpl : Nat → Int32} (h : rA N an kd pl mkd mpl) {j : Nat} (hj : j < N) : j < 6 := Nat.lt_of_lt_of_le hj h.2.1
theorem at6 {f : Nat → Int32} {j : Nat} (h : j < 6) : fX3_at 6 f (nI j) = f j := atN h (by decide)
theorem wr6 {f : Nat → Int32} {j : Nat} {v : Int32} (h : j < 6) : fX3_write 6 f (nI j) v = upd f j v := wrN h (by decide)
theorem within1 {wh : Int32} (h : ¬ fX3_within wh 1 = 0) : wh = 0 ∨ wh = 1 := by
  obtain ⟨h1, h2⟩ := kWithin 1 (by decide) h
  have : wh.toNatClampNeg = 0 ∨ wh.toNatClampNeg = 1 := by omega
  rcases this with e | e
  · exact .inl (by rw [h1, e]; rfl)
  · exact .inr (by rw [h1, e]; rfl)
theorem e_ofAnswer {N : Nat} {an : Int32} {kd pl mkd mpl : Nat → Int32} (h : rA N an kd pl mkd mpl) (x wh : Int32) : fX3_ofAnswer an kd pl x wh = fX4_ofAnswer an mkd mpl x wh := by
  unfold fX3_ofAnswer fX4_ofAnswer
  rw [eA]
  by_cases c : fX4_isAnswer an x = 0
  · rw [if_pos c, if_pos c]
  · rw [if_neg c, if_neg c]
    obtain ⟨j, hj, rfl⟩ := mAnsJ h.1 h.2.1 c
    have h6 := rA_6 h hj
    unfold fX1_kindOf fX1_placeOf
    rw [at6 h6, at6 h6, nI_clamp (by omega), rA_kd h hj, rA_pl h hj]
    by_cases c1 : fX3_within wh 1 = 0
    · rw [if_pos c1, if_neg (fun e => absurd c1 (by rw [e]; decide)), if_neg (fun e => absurd c1 (by rw [e]; decide))]
    · rw [if_neg c1]
      rcases within1 c1 with rfl | rfl
      · rfl
      · rfl
theorem rA_mpl {N : Nat} {an : Int32} {kd pl mkd mpl : Nat → Int32} (h : rA N an kd pl mkd mpl) (j : Nat) {b : Nat} (hb : b ≤ 9) : rA N an kd (upd pl j (nI b)) mkd (upd mpl j (nI b)) := by
  refine ⟨h.1, h.2.1, fun i hi => ⟨rA_kd h hi, ?_, (h.2.2 i hi).2.2.1, ?_⟩⟩
  · by_cases e : i = j
    · subst e; rw [pk_us, pk_us]
    · rw [pk_un e, pk_un e]; exact rA_pl h hi
  · by_cases e : i = j
    · subst e; exact ⟨b, hb, pk_us⟩
    · rw [pk_un e]; exact (h.2.2 i hi).2.2.2
theorem rA_mkd {N : Nat} {an : Int32} {kd pl mkd mpl : Nat → Int32} (h : rA N an kd pl mkd mpl) (j : Nat) {b : Nat} (hb : b ≤ 2) : rA N an (upd kd j (nI b)) pl (upd mkd j (nI b)) mpl := by
  refine ⟨h.1, h.2.1, fun i hi => ⟨?_, rA_pl h hi, ?_, (h.2.2 i hi).2.2.2⟩⟩
  · by_cases e : i = j
    · subst e; rw [pk_us, pk_us]
    · rw [pk_un e, pk_un e]; exact rA_kd h hi
  · by_cases e : i = j
    · subst e; exact ⟨b, hb, pk_us⟩
    · rw [pk_un e]; exact (h.2.2 i hi).2.2.1
theorem e_move {N : Nat} {an old : Int32} {kd pl mkd mpl : Nat → Int32} (h : rA N an kd pl mkd mpl) (x v : Int32) : (fX3_move old an pl x v).1 = (fX4_move an mpl x v).1 ∧ rA N an kd (fX3_move old an pl x v).2.1 mkd (fX4_move an mpl x v).2 ∧ ((fX3_move old an pl x v).2.2 = 1 ∨ (fX3_move old an pl x v).2.2 = old ∧ (fX3_move old an pl x v).2.1 = pl) := by
  unfold fX3_move fX4_move
  rw [eA, eW]
  by_cases c : fX4_isAnswer an x = 0
  · rw [if_pos c, if_pos c]; exact ⟨rfl, h, .inr ⟨rfl, rfl⟩⟩
  · rw [if_neg c, if_neg c]
    by_cases c1 : fX4_within v 0 9 = 0
    · rw [if_pos c1, if_pos c1]; exact ⟨rfl, h, .inr ⟨rfl, rfl⟩⟩
    · rw [if_neg c1, if_neg c1]
      obtain ⟨j, hj, rfl⟩ := mAnsJ h.1 h.2.1 c
      have h6 := rA_6 h hj
      obtain ⟨e1, e2⟩ := mWith 9 (by decide) c1
      unfold fX1_placeOf fX1_setPlace
      rw [at6 h6, wr6 h6, nI_clamp (by omega)]
      refine ⟨(rA_pl h hj).symm, ?_, .inl rfl⟩
      rw [e1]
      exact rA_mpl h j e2
theorem e_noS (an : Int32) : fX3_noSecret an = if an = 0 then 1 else 0 := rfl
theorem noS_if {α : Sort _} (an : Int32) (a b : α) : (if fX3_noSecret an = 0 then a else b) = if an = 0 then b else a := by
  rw [e_noS]
  by_cases c : an = 0
  · rw [if_pos c, if_pos c, if_neg (by decide)]
  · rw [if_neg c, if_neg c, if_pos rfl]
theorem e_grow (an gr v : Int32) : fX3_grow an gr v = fX4_grow an gr v := by
  unfold fX3_grow fX4_grow
  rw [eW, noS_if]
  rfl
theorem rPl_move {N : Nat} {an old old' : Int32} {kd pl pl' al wo fi ni : Nat → Int32} {pa : Int32} (h : rPl N an kd pl old al wo fi ni pa) (h2 : old' = 1 ∨ old' = old ∧ pl' = pl) : rPl N an kd pl' old' al wo fi ni pa := by
  rcases h2 with e | ⟨e1, e2⟩
  · exact ⟨h.1, h.2.1, .inl e⟩
  · rw [e1, e2]; exact h
/-- the set of the numbers below n with p -/
def maskF (p : Nat → Bool) : Nat → Nat
  | 0 => 0
  | k + 1 => maskF p k + if p k then 2 ^ k else 0
theorem maskF_lt (p : Nat → Bool) : ∀ n, maskF p n < 2 ^ n := by
  intro n
  induction n with
  | zero => exact Nat.one_pos
  | succ k ih =>
    show maskF p k + (if p k then 2 ^ k else 0) < 2 ^ (k + 1)
    rw [Nat.pow_succ]
    split <;> omega
theorem maskF_or (p : Nat → Bool) (k : Nat) : maskF p k + (if p k then 2 ^ k else 0) = if p k then maskF p k ||| 2 ^ k else maskF p k := by
  split
  · have := Nat.two_pow_add_eq_or_of_lt (maskF_lt p k) 1
    rw [Nat.mul_one] at this
    rw [Nat.add_comm, this, Nat.or_comm]
  · rfl
theorem maskF_testBit (p : Nat → Bool) : ∀ n i, (maskF p n).testBit i = (decide (i < n) && p i) := by
  intro n
  induction n with
  | zero => intro i; show Nat.testBit 0 i = _; simp
  | succ k ih =>
    intro i
    show (maskF p k + (if p k then 2 ^ k else 0)).testBit i = _
    rw [maskF_or]
    by_cases c : p k = true
    · rw [if_pos c, Nat.testBit_or, ih, Nat.testBit_two_pow]
      by_cases e : k = i
      · subst e; simp [c]
      · have : (i < k + 1) ↔ (i < k) := by omega
        simp [e, this]
    · rw [if_neg c, ih]
      by_cases e : k = i
      · subst e; simp at c; simp [c]
      · have : (i < k + 1) ↔ (i < k) := by omega
        simp [this]
theorem maskF_congr {p q : Nat → Bool} : ∀ n, (∀ i, i < n → p i = q i) → maskF p n = maskF q n := by
  intro n
  induction n with
  | zero => intro _; rfl
  | succ k ih =>
    intro h
    show maskF p k + _ = maskF q k + _
    rw [ih (fun i hi => h i (by omega)), h k (by omega)]
theorem maskF_self {S N : Nat} (h : S < 2 ^ N) : maskF S.testBit N = S := by
  apply Nat.eq_of_testBit_eq
  intro i
  rw [maskF_testBit]
  by_cases c : i < N
  · simp [c]
  · simp [c]
    exact Nat.testBit_lt_two_pow (Nat.lt_of_lt_of_le h (Nat.pow_le_pow_right (by decide) (by omega)))
theorem maskF_le {p q : Nat → Bool} : ∀ n, (∀ i, i < n → p i = true → q i = true) → maskF p n ≤ maskF q n := by
  intro n
  induction n with
  | zero => intro _; exact Nat.le_refl _
  | succ k ih =>
    intro h
    have h1 := ih (fun i hi => h i (by omega))
    show maskF p k + _ ≤ maskF q k + _
    by_cases c : p k = true
    · rw [if_pos c, if_pos (h k (by omega) c)]; omega
    · rw [if_neg c]; omega
/-- a sum, and the most, of f 0 .. f (n - 1) -/
def sumF (f : Nat → Nat) : Nat → Nat
  | 0 => 0
  | k + 1 => sumF f k + f k
def maxF (f : Nat → Nat) : Nat → Nat
  | 0 => 0
  | k + 1 => if f k ≤ maxF f k then maxF f k else f k
theorem sumF_congr {f g : Nat → Nat} : ∀ n, (∀ i, i < n → f i = g i) → sumF f n = sumF g n := by
  intro n
  induction n with
  | zero => intro _; rfl
  | succ k ih => intro h; show sumF f k + f k = sumF g k + g k; rw [ih (fun i hi => h i (by omega)), h k (by omega)]
theorem maxF_congr {f g : Nat → Nat} : ∀ n, (∀ i, i < n → f i = g i) → maxF f n = maxF g n := by
  intro n
  induction n with
  | zero => intro _; rfl
  | succ k ih => intro h; show (if f k ≤ maxF f k then maxF f k else f k) = (if g k ≤ maxF g k then maxF g k else g k); rw [ih (fun i hi => h i (by omega)), h k (by omega)]
theorem maxF_le {f : Nat → Nat} {b : Nat} : ∀ n, (∀ i, i < n → f i ≤ b) → maxF f n ≤ b := by
  intro n
  induction n with
  | zero => intro _; exact Nat.zero_le _
  | succ k ih => intro h; show (if f k ≤ maxF f k then maxF f k else f k) ≤ b; split; exact ih (fun i hi => h i (by omega)); exact h k (by omega)
theorem maxF_ge {f : Nat → Nat} : ∀ n i, i < n → f i ≤ maxF f n := by
  intro n
  induction n with
  | zero => intro i h; omega
  | succ k ih =>
    intro i h
    show f i ≤ (if f k ≤ maxF f k then maxF f k else f k)
    by_cases e : i = k
    · subst e; split <;> omega
    · have := ih i (by omega); split <;> omega
theorem sumF_add (f g : Nat → Nat) : ∀ n, sumF (fun v => f v + g v) n = sumF f n + sumF g n := by
  intro n
  induction n with
  | zero => rfl
  | succ k ih => show sumF (fun v => f v + g v) k + (f k + g k) = (sumF f k + f k) + (sumF g k + g k); omega
theorem sumF_le {f g : Nat → Nat} : ∀ n, (∀ i, i < n → f i ≤ g i) → sumF f n ≤ sumF g n := by
  intro n
  induction n with
  | zero => intro _; exact Nat.le_refl _
  | succ k ih => intro h; have := ih (fun i hi => h i (by omega)); have := h k (by omega); show sumF f k + f k ≤ sumF g k + g k; omega
theorem sumF_mul (c : Nat) (f : Nat → Nat) : ∀ n, sumF (fun v => c * f v) n = c * sumF f n := by
  intro n
  induction n with
  | zero => rfl
  | succ k ih => show sumF (fun v => c * f v) k + c * f k = c * (sumF f k + f k); rw [ih, Nat.mul_add]
/-- one more value -/
theorem sumF_one {f g : Nat → Nat} {v0 : Nat} : ∀ n, v0 < n → (∀ i, i ≠ v0 → f i = g i) → sumF f n + g v0 = sumF g n + f v0 := by
  intro n
  induction n with
  | zero => intro h; omega
  | succ k ih =>
    intro h h1
    show sumF f k + f k + g v0 = sumF g k + g k + f v0
    by_cases e : v0 = k
    · subst e
      have : sumF f v0 = sumF g v0 := sumF_congr v0 (fun i hi => h1 i (by omega))
      omega
    · have := ih (by omega) h1
      have := h1 k (fun h => e h.symm)
      omega
theorem maxF_one {f g : Nat → Nat} {v0 n : Nat} (h : v0 < n) (h0 : g v0 = 0) (h1 : ∀ i, i ≠ v0 → f i = g i) : maxF f n = if f v0 ≤ maxF g n then maxF g n else f v0 := by
  apply Nat.le_antisymm
  · apply maxF_le
    intro i hi
    by_cases e : i = v0
    · subst e; split <;> omega
    · have := maxF_ge (f := g) n i hi
      rw [← h1 i e] at this
      split <;> omega
  · have hg : maxF g n ≤ maxF f n := maxF_le n (fun i hi => by
      by_cases e : i = v0
      · subst e; omega
      · rw [← h1 i e]; exact maxF_ge n i hi)
    have := maxF_ge (f := f) n v0 h
    split <;> omega
/-- at most one of the values is met -/
theorem sumF_hit {P : Nat → Bool} {c : Nat} (h : ∀ i j, P i = true → P j = true → i = j) : ∀ n, sumF (fun v => if P v then c else 0) n ≤ c ∧ ((∀ i, i < n → P i = false) → sumF (fun v => if P v then c else 0) n = 0) := by
  intro n
  have hz : ∀ m, (∀ i, i < m → P i = false) → sumF (fun v => if P v then c else 0) m = 0 := by
    intro m
    induction m with
    | zero => intro _; rfl
    | succ k ih =>
      intro h1
      show sumF (fun v => if P v then c else 0) k + (if P k then c else 0) = 0
      rw [ih (fun i hi => h1 i (by omega)), h1 k (by omega)]; rfl
  refine ⟨?_, hz n⟩
  induction n with
  | zero => exact Nat.zero_le _
  | succ k ih =>
    show sumF (fun v => if P v then c else 0) k + (if P k then c else 0) ≤ c
    by_cases e : P k = true
    · rw [hz k (fun i hi => by
        by_cases e1 : P i = true
        · have := h i k e1 e; omega
        · exact (Bool.not_eq_true _).mp e1), if_pos e]; omega
    · rw [if_neg e]; omega
theorem sumF_mask {p : Nat → Nat → Bool} {q : Nat → Bool} (h : ∀ v t, p v t = true → q t = true) (h1 : ∀ v v' t, p v t = true → p v' t = true → v = v') (m : Nat) : ∀ n, sumF (fun v => maskF (p v) n) m ≤ maskF q n := by
  intro n
  induction n with
  | zero =>
    show sumF (fun _ => 0) m ≤ 0
    have : ∀ m, sumF (fun _ => 0) m = 0 := by
      intro m
      induction m with
      | zero => rfl
      | succ k ih => show sumF (fun _ => 0) k + 0 = 0; rw [ih]
    rw [this]; exact Nat.le_refl _
  | succ k ih =>
    have e : sumF (fun v => maskF (p v) (k + 1)) m = sumF (fun v => maskF (p v) k) m + sumF (fun v => if p v k then 2 ^ k else 0) m := sumF_add _ _ m
    rw [e]
    show _ ≤ maskF q k + (if q k then 2 ^ k else 0)
    have h2 := sumF_hit (P := fun v => p v k) (c := 2 ^ k) (fun i j hi hj => h1 i j k hi hj) m
    by_cases c : q k = true
    · rw [if_pos c]; have := h2.1; omega
    · rw [if_neg c, h2.2 (fun i _ => by
        by_cases e1 : p i k = true
        · exact absurd (h i k e1) c
        · exact (Bool.not_eq_true _).mp e1)]
      omega
theorem hasB : ∀ S : Fin 64, ∀ k : Fin 6, ((nI S.val >>> (nI k.val &&& 31)) &&& 1) = if S.val.testBit k.val then 1 else 0 := by decide +kernel
theorem hasN {S k : Nat} (hS : S < 64) (hk : k < 6) : ((nI S >>> (nI k &&& 31)) &&& 1) = if S.testBit k then 1 else 0 := hasB ⟨S, hS⟩ ⟨k, hk⟩
theorem hasX {S k : Nat} (hS : S < 64) (hk : k < 6) : fX3_has (nI S) (nI k) = if S.testBit k then 1 else 0 := by
  unfold fX3_has
  rw [hasN hS hk]
  by_cases c : S.testBit k = true
  · rw [if_pos c, if_neg (by decide), ]
  · rw [if_neg c, if_pos rfl]
theorem diffB : ∀ a b : Fin 64, nI a.val &&& (nI b.val ^^^ (-1)) = nI (a.val &&& (63 ^^^ b.val)) := by decide +kernel
theorem diffN {a b : Nat} (ha : a < 64) (hb : b < 64) : nI a &&& (nI b ^^^ (-1)) = nI (a &&& (63 ^^^ b)) := diffB ⟨a, ha⟩ ⟨b, hb⟩
theorem pow64 {N : Nat} (h : N ≤ 6) : 2 ^ N ≤ 64 := mP2b h
theorem nI64 {a b : Nat} (ha : a < 64) (hb : b < 64) : nI a = nI b ↔ a = b := nI_eq (by omega) (by omega)
/-- the group of those by which x shows v -/
def gG (kd pl : Nat → Int32) (N x : Nat) (v : Int32) (S : Nat) : Nat := maskF (fun t => S.testBit t && decide (fX4_shownBy kd pl (nI x) (nI t) = v)) N
theorem gG_lt {kd pl : Nat → Int32} {N x S : Nat} {v : Int32} (hN : N ≤ 6) : gG kd pl N x v S < 64 := Nat.lt_of_lt_of_le (maskF_lt _ N) (pow64 hN)
theorem group_eq {kd pl : Nat → Int32} {N x S : Nat} {v : Int32} (hN : N ≤ 6) (hS : S < 64) : fX4_group kd pl N (nI x) v (nI S) = nI (gG kd pl N x v S) := by
  unfold fX4_group aX4_group_6 gG
  have h : ∀ k, k ≤ N → lp (fun k a => sX4_group_6 kd pl (nI x) v (nI S) k a) 0 k = nI (maskF (fun t => S.testBit t && decide (fX4_shownBy kd pl (nI x) (nI t) = v)) k) := by
    intro k
    induction k with
    | zero => intro _; rfl
    | succ k ih =>
      intro hk
      have h0 : ∀ a, nI a ||| 0 = nI a := fun a => by rw [show (0 : Int32) = nI 0 from rfl, mOr, Nat.or_zero]
      show sX4_group_6 kd pl (nI x) v (nI S) k (lp (fun k a => sX4_group_6 kd pl (nI x) v (nI S) k a) 0 k) = nI (maskF _ k + _)
      rw [ih (by omega), maskF_or]
      unfold sX4_group_6
      rw [hasN hS (by omega)]
      by_cases c : S.testBit k = true
      · rw [if_pos c, if_pos rfl]
        by_cases c2 : fX4_shownBy kd pl (nI x) (nI k) = v
        · rw [if_pos c2, if_pos (by simp [c, c2]), mP2 (by omega), mOr]
        · rw [if_neg c2, if_neg (by simp [c2]), h0]
      · rw [if_neg c, if_neg (by decide), if_neg (by simp [c]), h0]
  exact h N (Nat.le_refl _)
theorem lq_inl {α ρ : Type} {f : Nat → α → α ⊕ ρ} {a x : α} {k : Nat} (h : lq f a k = .inl x) : lq f a (k + 1) = f k x := by
  show (match lq f a k with | .inl x => f k x | .inr r => .inr r) = _
  rw [h]
theorem lq_inr {α ρ : Type} {f : Nat → α → α ⊕ ρ} {a : α} {r : ρ} {k : Nat} (h : lq f a k = .inr r) : lq f a (k + 1) = .inr r := by
  show (match lq f a k with | .inl x => f k x | .inr r => .inr r) = _
  rw [h]
theorem lp_succ {α : Type} {f : Nat → α → α} {a : α} {k : Nat} : lp f a (k + 1) = f k (lp f a k) := rfl
section PL
variable {kd pl : Nat → Int32} {N : Nat}
/-- the group of value v -/
abbrev gv (kd pl : Nat → Int32) (N x v S : Nat) : Nat := gG kd pl N x (nI v) S
def FullP (kd pl : Nat → Int32) (N x S : Nat) : Prop := ∃ v, v < 11 ∧ gv kd pl N x v S = S
theorem gv_le {x v S : Nat} (hS : S < 2 ^ N) : gv kd pl N x v S ≤ S := by
  have h := maskF_le (p := fun t => S.testBit t && decide (fX4_shownBy kd pl (nI x) (nI t) = nI v)) (q := S.testBit) N (fun i _ h => by simp at h; exact h.1)
  rw [maskF_self hS] at h
  exact h
theorem gv_lt {x v S : Nat} (hS : S < 2 ^ N) (h : gv kd pl N x v S ≠ S) : gv kd pl N x v S < S := by have := gv_le (kd := kd) (pl := pl) (x := x) (v := v) hS; omega
theorem cardB : ∀ S : Fin 64, fX4_size S.val = nI (fX4_size S.val).toNatClampNeg ∧ (fX4_size S.val).toNatClampNeg ≤ 6 ∧ fJ6_bitCount_0f7a4 (nI S.val) = fX4_size S.val ∧ (S.val ≠ 0 → (fX4_size S.val).toNatClampNeg ≠ 0) := by decide +kernel
def card (S : Nat) : Nat := (fX4_size S).toNatClampNeg
theorem card_eq {S : Nat} (h : S < 64) : fX4_size S = nI (card S) := (cardB ⟨S, h⟩).1
theorem card_le {S : Nat} (h : S < 64) : card S ≤ 6 := (cardB ⟨S, h⟩).2.1
theorem card_bc {S : Nat} (h : S < 64) : fJ6_bitCount_0f7a4 (nI S) = nI (card S) := (cardB ⟨S, h⟩).2.2.1.trans (card_eq h)
theorem card_pos {S : Nat} (h : S < 64) (h0 : 0 < S) : 0 < card S := Nat.pos_of_ne_zero ((cardB ⟨S, h⟩).2.2.2 (by show S ≠ 0; omega))
theorem worstBy_eq {wo : Nat → Int32} {w : Nat → Nat} {x S : Nat} (hN : N ≤ 6) (hS : S < 2 ^ N) (hw : ∀ T, T < S → wo T = nI (w T) ∧ w T ≤ 63) : fX4_worstBy kd pl wo N (nI x) (nI S) = (by classical exact if FullP kd pl N x S then -9 else nI (maxF (fun v => w (gv kd pl N x v S)) 11 + 1)) := by
  classical
  have h64 : S < 64 := Nat.lt_of_lt_of_le hS (pow64 hN)
  have h : ∀ k, k ≤ 11 → lq (fun k a => sX4_worstBy_5 kd pl wo N (nI x) (nI S) k a) 0 k = if ∃ v, v < k ∧ gv kd pl N x v S = S then .inr (-9) else .inl (nI (maxF (fun v => w (gv kd pl N x v S)) k)) := by
    intro k
    induction k with
    | zero => intro _; rw [if_neg (fun ⟨v, h, _⟩ => absurd h (Nat.not_lt_zero _))]; rfl
    | succ k ih =>
      intro hk
      have ihk := ih (by omega)
      by_cases c : ∃ v, v < k ∧ gv kd pl N x v S = S
      · rw [if_pos c] at ihk
        rw [lq_inr ihk, if_pos (by obtain ⟨v, h1, h2⟩ := c; exact ⟨v, by omega, h2⟩)]
      · rw [if_neg c] at ihk
        rw [lq_inl ihk]
        unfold sX4_worstBy_5
        rw [group_eq hN h64]
        have hg64 : gG kd pl N x (nI k) S < 64 := gG_lt hN
        by_cases c2 : gv kd pl N x k S = S
        · rw [if_pos (congrArg nI c2), if_pos ⟨k, by omega, c2⟩]
        · have c4 : ¬ ∃ v, v < k + 1 ∧ gv kd pl N x v S = S := fun ⟨v, h1, h2⟩ => by
            rcases Nat.lt_or_ge v k with h3 | h3
            · exact c ⟨v, h3, h2⟩
            · have : v = k := by omega
              subst this; exact c2 h2
          rw [if_neg (fun e => c2 ((nI64 hg64 h64).mp e)), if_neg c4, nI_clamp (by omega)]
          obtain ⟨e1, e2⟩ := hw _ (gv_lt hS c2)
          have hb : maxF (fun v => w (gv kd pl N x v S)) k ≤ 63 := maxF_le k (fun i hi => (hw _ (gv_lt hS (fun e => c ⟨i, hi, e⟩))).2)
          rw [e1]
          show (if nI _ ≤ nI _ then _ else _) = Sum.inl (nI (if w (gv kd pl N x k S) ≤ maxF (fun v => w (gv kd pl N x v S)) k then _ else _))
          by_cases c3 : w (gv kd pl N x k S) ≤ maxF (fun v => w (gv kd pl N x v S)) k
          · rw [if_pos c3, if_pos ((nI_leI (by omega) (by omega)).mpr c3)]
          · rw [if_neg c3, if_neg (fun e => c3 ((nI_leI (by omega) (by omega)).mp e))]
  unfold fX4_worstBy
  rw [h 11 (Nat.le_refl _)]
  by_cases c : ∃ v, v < 11 ∧ gv kd pl N x v S = S
  · rw [if_pos c, if_pos (show FullP kd pl N x S from c)]; rfl
  · rw [if_neg c, if_neg (show ¬ FullP kd pl N x S from c)]
    show nI _ + 1 = _
    rw [nI_1]
theorem sumBy_eq {su : Nat → Int32} {u : Nat → Nat} {x S : Nat} (hN : N ≤ 6) (hS : S < 2 ^ N) (hw : ∀ T, T < S → su T = nI (u T)) : fX4_sumBy kd pl su N S (nI x) (nI S) = (by classical exact if FullP kd pl N x S then -9 else nI (card S + sumF (fun v => u (gv kd pl N x v S)) 11)) := by
  classical
  have h64 : S < 64 := Nat.lt_of_lt_of_le hS (pow64 hN)
  have h : ∀ k, k ≤ 11 → lq (fun k a => sX4_sumBy_8 kd pl su N (nI x) (nI S) k a) (fX4_size S) k = if ∃ v, v < k ∧ gv kd pl N x v S = S then .inr (-9) else .inl (nI (card S + sumF (fun v => u (gv kd pl N x v S)) k)) := by
    intro k
    induction k with
    | zero => intro _; rw [if_neg (fun ⟨v, h, _⟩ => absurd h (Nat.not_lt_zero _)), card_eq h64]; rfl
    | succ k ih =>
      intro hk
      have ihk := ih (by omega)
      by_cases c : ∃ v, v < k ∧ gv kd pl N x v S = S
      · rw [if_pos c] at ihk
        rw [lq_inr ihk, if_pos (by obtain ⟨v, h1, h2⟩ := c; exact ⟨v, by omega, h2⟩)]
      · rw [if_neg c] at ihk
        rw [lq_inl ihk]
        unfold sX4_sumBy_8
        rw [group_eq hN h64]
        have hg64 : gG kd pl N x (nI k) S < 64 := gG_lt hN
        by_cases c2 : gv kd pl N x k S = S
        · rw [if_pos (congrArg nI c2), if_pos ⟨k, by omega, c2⟩]
        · have c4 : ¬ ∃ v, v < k + 1 ∧ gv kd pl N x v S = S := fun ⟨v, h1, h2⟩ => by
            rcases Nat.lt_or_ge v k with h3 | h3
            · exact c ⟨v, h3, h2⟩
            · have : v = k := by omega
              subst this; exact c2 h2
          rw [if_neg (fun e => c2 ((nI64 hg64 h64).mp e)), if_neg c4, nI_clamp (by omega)]
          rw [hw _ (gv_lt hS c2), nI_add]
          show Sum.inl (nI (card S + sumF _ k + u (gv kd pl N x k S))) = Sum.inl (nI (card S + (sumF _ k + u (gv kd pl N x k S))))
          rw [Nat.add_assoc]
  unfold fX4_sumBy
  rw [h 11 (Nat.le_refl _)]
  by_cases c : ∃ v, v < 11 ∧ gv kd pl N x v S = S
  · rw [if_pos c, if_pos (show FullP kd pl N x S from c)]; rfl
  · rw [if_neg c, if_neg (show ¬ FullP kd pl N x S from c)]; rfl
end PL
theorem at36 {f : Nat → Int32} {j : Nat} (h : j < 36) : fX3_at 36 f (nI j) = f j := atN h (by decide)
theorem at64 {f : Nat → Int32} {j : Nat} (h : j < 64) : fX3_at 64 f (nI j) = f j := atN h (by decide)
theorem wr64 {f : Nat → Int32} {j : Nat} {v : Int32} (h : j < 64) : fX3_write 64 f (nI j) v = upd f j v := wrN h (by decide)
theorem tb63 (i : Nat) : Nat.testBit 63 i = decide (i < 6) := Nat.testBit_two_pow_sub_one 6 i
theorem tbBig {S i : Nat} (h : S < 64) (hi : 6 ≤ i) : S.testBit i = false := Nat.testBit_lt_two_pow (Nat.lt_of_lt_of_le h (Nat.pow_le_pow_right (n := 2) (by decide) hi))
theorem maskF_64 {p : Nat → Bool} {N : Nat} (h : N ≤ 6) : maskF p N < 64 := Nat.lt_of_lt_of_le (maskF_lt p N) (pow64 h)
theorem mask_and (p q : Nat → Bool) (N : Nat) : maskF p N &&& maskF q N = maskF (fun t => p t && q t) N := by
  apply Nat.eq_of_testBit_eq
  intro i
  rw [Nat.testBit_and, maskF_testBit, maskF_testBit, maskF_testBit]
  by_cases c : i < N <;> simp [c]
theorem mask_diff (p q : Nat → Bool) {N : Nat} (h : N ≤ 6) : maskF p N &&& (63 ^^^ maskF q N) = maskF (fun t => p t && !q t) N := by
  apply Nat.eq_of_testBit_eq
  intro i
  rw [Nat.testBit_and, Nat.testBit_xor, tb63, maskF_testBit, maskF_testBit, maskF_testBit]
  by_cases c : i < N
  · have : i < 6 := by omega
    simp [c, this]
  · simp [c]
/-- the values met below k -/
def kF (q : Nat → Bool) (val : Nat → Nat) : Nat → Nat → Bool
  | 0, _ => false
  | k + 1, v => kF q val k v || (q k && decide (val k = v))
theorem kF_iff {q : Nat → Bool} {val : Nat → Nat} {v : Nat} : ∀ k, kF q val k v = true ↔ ∃ t, t < k ∧ q t = true ∧ val t = v := by
  intro k
  induction k with
  | zero => exact ⟨fun h => (by cases h), fun ⟨t, h, _⟩ => absurd h (Nat.not_lt_zero _)⟩
  | succ k ih =>
    show (kF q val k v || (q k && decide (val k = v))) = true ↔ _
    rw [Bool.or_eq_true, ih, Bool.and_eq_true, decide_eq_true_iff]
    constructor
    · rintro (⟨t, h1, h2, h3⟩ | ⟨h2, h3⟩)
      · exact ⟨t, by omega, h2, h3⟩
      · exact ⟨k, by omega, h2, h3⟩
    · rintro ⟨t, h1, h2, h3⟩
      by_cases e : t = k
      · subst e; exact .inr ⟨h2, h3⟩
      · exact .inl ⟨t, by omega, h2, h3⟩
section TA
variable {kd pl : Nat → Int32} {N : Nat}
def ShV (kd pl : Nat → Int32) (N x : Nat) (val : Nat → Nat) : Prop := fX4_shownBy kd pl (nI x) (nI x) = -9 ∧ ∀ t, t < N → t ≠ x → fX4_shownBy kd pl (nI x) (nI t) = nI (val t) ∧ val t < 11
theorem m9ne {v : Nat} (h : v < 2 ^ 31) : ¬ (-9 : Int32) = nI v := fun e => nI_pos h (by rw [← e]; decide)
/-- the set asked about without x -/
abbrev qF (S x : Nat) : Nat → Bool := fun t => S.testBit t && !decide (t = x)
theorem gv_q {x v S : Nat} {val : Nat → Nat} (hv : ShV kd pl N x val) (h11 : v < 11) {val9 : Nat} : gv kd pl N x v S = maskF (fun t => qF S x t && decide (val t = v)) N := by
  refine maskF_congr N (fun t ht => ?_)
  by_cases e : t = x
  · subst e
    rw [hv.1, decide_eq_false (m9ne (by omega))]
    simp [qF]
  · obtain ⟨h1, h2⟩ := hv.2 t ht e
    rw [h1]
    have : (nI (val t) = nI v) ↔ val t = v := nI_eq (by omega) (by omega)
    by_cases c : val t = v
    · simp [c, e, qF]
    · have c' : ¬ nI (val t) = nI v := fun h => c (this.mp h)
      simp [c, c', e, qF]
theorem part_eq {x S k : Nat} {val : Nat → Nat} (hN : N ≤ 6) (hv : ShV kd pl N x val) (hk : k < N) (hkx : k ≠ x) (hq : qF S x k = true) (hnk : kF (qF S x) val k (val k) = false) :
    maskF (fun t => qF S x t && !kF (qF S x) val k (val t)) N &&& maskF (fun o => decide (fX4_shownBy kd pl (nI x) (nI o) = fX4_shownBy kd pl (nI x) (nI k))) N = gv kd pl N x (val k) S := by
  rw [mask_and, gv_q hv (hv.2 k hk hkx).2 (val9 := 0)]
  refine maskF_congr N (fun t ht => ?_)
  by_cases e : t = x
  · subst e; simp [qF]
  · rw [(hv.2 k hk hkx).1, (hv.2 t ht e).1]
    have : (nI (val t) = nI (val k)) ↔ val t = val k := nI_eq (by have := (hv.2 t ht e).2; omega) (by have := (hv.2 k hk hkx).2; omega)
    by_cases c : val t = val k
    · have c' : nI (val t) = nI (val k) := this.mpr c
      simp only [c, hnk, c']; simp
    · have c' : ¬ nI (val t) = nI (val k) := fun h => c (this.mp h)
      simp only [c, c']; simp
theorem rest_eq {x S k : Nat} {val : Nat → Nat} (hN : N ≤ 6) (hv : ShV kd pl N x val) (hk : k < N) (hkx : k ≠ x) (hq : qF S x k = true) :
    maskF (fun t => qF S x t && !kF (qF S x) val k (val t)) N &&& (63 ^^^ gv kd pl N x (val k) S) = maskF (fun t => qF S x t && !kF (qF S x) val (k + 1) (val t)) N := by
  rw [gv_q hv (hv.2 k hk hkx).2 (val9 := 0), mask_diff _ _ hN]
  refine maskF_congr N (fun t ht => ?_)
  show _ = (qF S x t && !(kF (qF S x) val k (val t) || (qF S x k && decide (val k = val t))))
  rw [hq]
  have : decide (val k = val t) = decide (val t = val k) := by
    by_cases c : val t = val k
    · rw [decide_eq_true c, decide_eq_true c.symm]
    · rw [decide_eq_false c, decide_eq_false (fun h => c h.symm)]
  rw [this]
  cases qF S x t <;> cases kF (qF S x) val k (val t) <;> simp
theorem kF_same {q : Nat → Bool} {val : Nat → Nat} {k : Nat} (h : q k = false ∨ kF q val k (val k) = true) : kF q val (k + 1) = kF q val k := by
  funext v
  show (kF q val k v || (q k && decide (val k = v))) = _
  rcases h with h | h
  · rw [h]; simp
  · by_cases c : val k = v
    · rw [← c, h]; simp
    · simp [c]
theorem kF_new {q : Nat → Bool} {val : Nat → Nat} {k v : Nat} (h : v ≠ val k) : kF q val (k + 1) v = kF q val k v := by
  show (kF q val k v || (q k && decide (val k = v))) = _
  rw [decide_eq_false (fun e => h e.symm)]; simp
theorem kF_hit {q : Nat → Bool} {val : Nat → Nat} {k : Nat} (h : q k = true) : kF q val (k + 1) (val k) = true := by
  show (kF q val k (val k) || (q k && decide (val k = val k))) = _
  rw [h]; simp
theorem try_eq {al wo fi ni : Nat → Int32} {w u val : Nat → Nat} {x S : Nat} (hN : N ≤ 6) (hx : x < N) (hS : S < 2 ^ N) (h0 : 0 < S) (hv : ShV kd pl N x val)
    (hal : ∀ t, t < N → al (x * 6 + t) = nI (maskF (fun o => decide (fX4_shownBy kd pl (nI x) (nI o) = fX4_shownBy kd pl (nI x) (nI t))) N))
    (hw : ∀ T, T < S → wo T = nI (w T) ∧ w T ≤ 63) (hu : ∀ T, T < S → ni T = nI (u T)) (hw0 : w 0 = 0) (hu0 : u 0 = 0) :
    fX0_tryAsking al wo fi ni N (nI S) (nI x) = (by classical exact if FullP kd pl N x S then (wo, fi, ni) else
      (if wo S ≤ nI (maxF (fun v => w (gv kd pl N x v S)) 11 + 1) then wo else upd wo S (nI (maxF (fun v => w (gv kd pl N x v S)) 11 + 1)),
       if wo S ≤ nI (maxF (fun v => w (gv kd pl N x v S)) 11 + 1) then fi else upd fi S (nI x),
       upd ni S (if nI (card S + sumF (fun v => u (gv kd pl N x v S)) 11) < ni S then nI (card S + sumF (fun v => u (gv kd pl N x v S)) 11) else ni S))) := by
  classical
  have h64 : S < 64 := Nat.lt_of_lt_of_le hS (pow64 hN)
  have hx6 : x < 6 := by omega
  let q := qF S x
  let R := fun k => maskF (fun t => q t && !kF q val k (val t)) N
  have hR64 : ∀ k, R k < 64 := fun k => maskF_64 hN
  let st : Nat → Int32 × Int32 × Int32 := fun k => (nI (maxF (fun v => if kF q val k v = true then w (gv kd pl N x v S) else 0) 11), nI (card S + sumF (fun v => if kF q val k v = true then u (gv kd pl N x v S) else 0) 11), nI (R k))
  have h : ∀ k, k ≤ N → lq (fun k a => sX0_tryAsking_20 al wo fi ni (nI S) (nI x) k a.1 a.2.1 a.2.2) ((0 : Int32), (fJ6_bitCount_0f7a4 (nI S)), ((nI S) &&& ((1 <<< ((nI x) &&& 31)) ^^^ (-1)))) k = if ∃ v, v < 11 ∧ kF q val k v = true ∧ gv kd pl N x v S = S then .inr (wo, fi, ni) else .inl (st k) := by
    intro k
    induction k with
    | zero =>
      intro _
      rw [if_neg (fun ⟨v, _, h, _⟩ => by cases h)]
      have hz : ∀ m, maxF (fun v => if kF q val 0 v = true then w (gv kd pl N x v S) else 0) m = 0 := by
        intro m
        exact Nat.le_zero.mp (maxF_le m (fun i _ => by show (if false = true then _ else 0) ≤ 0; simp))
      have hs : ∀ m, sumF (fun v => if kF q val 0 v = true then u (gv kd pl N x v S) else 0) m = 0 := by
        intro m
        induction m with
        | zero => rfl
        | succ m ih => show sumF _ m + (if false = true then _ else 0) = 0; rw [ih]; rfl
      show Sum.inl ((0 : Int32), fJ6_bitCount_0f7a4 (nI S), nI S &&& ((1 <<< (nI x &&& 31)) ^^^ (-1))) = Sum.inl (nI _, nI (card S + _), nI (R 0))
      rw [hz, hs, card_bc h64, mP2 (by omega), diffN h64 (Nat.lt_of_lt_of_le (Nat.pow_lt_pow_right (a := 2) (by decide) hx6) (Nat.le_refl _))]
      have e : S &&& (63 ^^^ 2 ^ x) = R 0 := by
        apply Nat.eq_of_testBit_eq
        intro i
        show _ = (maskF (fun t => q t && !kF q val 0 (val t)) N).testBit i
        rw [Nat.testBit_and, Nat.testBit_xor, tb63, Nat.testBit_two_pow, maskF_testBit]
        show _ = (decide (i < N) && ((S.testBit i && !decide (i = x)) && !false))
        by_cases c : i < N
        · have : i < 6 := by omega
          by_cases e : i = x
          · subst e; simp [this]
          · have e' : ¬ x = i := fun h => e h.symm
            simp [c, this, e, e']
        · have : S.testBit i = false := Nat.testBit_lt_two_pow (Nat.lt_of_lt_of_le hS (Nat.pow_le_pow_right (by decide) (by omega)))
          simp [this]
      rw [e]; rfl
    | succ k ih =>
      intro hk
      have ihk := ih (by omega)
      by_cases c : ∃ v, v < 11 ∧ kF q val k v = true ∧ gv kd pl N x v S = S
      · rw [if_pos c] at ihk
        rw [lq_inr ihk, if_pos (by obtain ⟨v, h1, h2, h3⟩ := c; exact ⟨v, h1, by show (kF q val k v || _) = true; rw [h2]; rfl, h3⟩)]
      · rw [if_neg c] at ihk
        rw [lq_inl ihk]
        show sX0_tryAsking_20 al wo fi ni (nI S) (nI x) k (st k).1 (st k).2.1 (nI (R k)) = _
        unfold sX0_tryAsking_20
        rw [hasX (hR64 k) (by omega)]
        have ht : (R k).testBit k = (q k && !kF q val k (val k)) := by
          show (maskF (fun t => q t && !kF q val k (val t)) N).testBit k = _
          rw [maskF_testBit, decide_eq_true (by omega : k < N), Bool.true_and]
        rw [ht]
        by_cases c2 : (q k && !kF q val k (val k)) = true
        · rw [if_neg (by rw [if_pos c2]; decide)]
          rw [Bool.and_eq_true, Bool.not_eq_true'] at c2
          obtain ⟨hqk, hnk⟩ := c2
          have hkx : k ≠ x := fun e => by subst e; simp [q, qF] at hqk
          have hix : (nI x * 6) + nI k = nI (x * 6 + k) := by rw [show (6 : Int32) = nI 6 from rfl, pk_mul, nI_add]
          have hpart : nI (R k) &&& fX3_at 36 al (nI x * 6 + nI k) = nI (gv kd pl N x (val k) S) := by
            rw [hix, at36 (by omega), hal k (by omega), mAnd]
            exact congrArg nI (part_eq hN hv (by omega) hkx hqk hnk)
          have hgl : gv kd pl N x (val k) S < 64 := gG_lt hN
          rw [hpart]
          have hv11 := (hv.2 k (by omega) hkx).2
          by_cases c3 : gv kd pl N x (val k) S = S
          · rw [if_pos (congrArg nI c3), if_pos ⟨val k, hv11, kF_hit hqk, c3⟩]
          · have c4 : ¬ ∃ v, v < 11 ∧ kF q val (k + 1) v = true ∧ gv kd pl N x v S = S := fun ⟨v, h1, h2, h3⟩ => by
              by_cases e : v = val k
              · rw [e] at h3; exact c3 h3
              · rw [kF_new e] at h2; exact c ⟨v, h1, h2, h3⟩
            rw [if_neg (fun e => c3 ((nI64 hgl h64).mp e)), if_neg c4]
            have hgS := gv_lt hS c3
            have e1 : fX0_worstOf wo (nI (gv kd pl N x (val k) S)) = nI (w (gv kd pl N x (val k) S)) := by
              unfold fX0_worstOf; rw [at64 hgl]; exact (hw _ hgS).1
            have e2 : fX0_nightsOf ni (nI (gv kd pl N x (val k) S)) = nI (u (gv kd pl N x (val k) S)) := by
              unfold fX0_nightsOf; rw [at64 hgl]; exact hu _ hgS
            have e3 : nI (R k) &&& (nI (gv kd pl N x (val k) S) ^^^ (-1)) = nI (R (k + 1)) := by
              rw [diffN (hR64 k) hgl]
              exact congrArg nI (rest_eq hN hv (by omega) hkx hqk)
            rw [e1, e2, e3]
            have hm := maxF_one (f := fun v => if kF q val (k + 1) v = true then w (gv kd pl N x v S) else 0) (g := fun v => if kF q val k v = true then w (gv kd pl N x v S) else 0) (n := 11) hv11 (by show (if kF q val k (val k) = true then _ else 0) = 0; rw [hnk]; rfl) (fun i hi => by show (if kF q val (k + 1) i = true then _ else 0) = _; rw [kF_new hi])
            have hs := sumF_one (f := fun v => if kF q val (k + 1) v = true then u (gv kd pl N x v S) else 0) (g := fun v => if kF q val k v = true then u (gv kd pl N x v S) else 0) 11 hv11 (fun i hi => by show (if kF q val (k + 1) i = true then _ else 0) = _; rw [kF_new hi])
            have hs1 : (if kF q val k (val k) = true then u (gv kd pl N x (val k) S) else 0) = 0 := by rw [hnk]; rfl
            have hs2 : (if kF q val (k + 1) (val k) = true then u (gv kd pl N x (val k) S) else 0) = u (gv kd pl N x (val k) S) := if_pos (kF_hit hqk)
            have hs3 : (if kF q val (k + 1) (val k) = true then w (gv kd pl N x (val k) S) else 0) = w (gv kd pl N x (val k) S) := if_pos (kF_hit hqk)
            rw [hs1, hs2] at hs
            rw [hs3] at hm
            have hb : maxF (fun v => if kF q val k v = true then w (gv kd pl N x v S) else 0) 11 ≤ 63 := maxF_le 11 (fun i hi => by
              show (if kF q val k i = true then w (gv kd pl N x i S) else 0) ≤ 63
              by_cases e : kF q val k i = true
              · rw [if_pos e]; exact (hw _ (gv_lt hS (fun h => c ⟨i, hi, e, h⟩))).2
              · rw [if_neg e]; omega)
            have hb2 := (hw _ hgS).2
            have r1 : (if (st k).1 < nI (w (gv kd pl N x (val k) S)) then nI (w (gv kd pl N x (val k) S)) else (st k).1) = (st (k + 1)).1 := by
              show (if nI (maxF (fun v => if kF q val k v = true then w (gv kd pl N x v S) else 0) 11) < _ then _ else nI _) = nI (maxF (fun v => if kF q val (k + 1) v = true then w (gv kd pl N x v S) else 0) 11)
              rw [hm]
              by_cases c5 : w (gv kd pl N x (val k) S) ≤ maxF (fun v => if kF q val k v = true then w (gv kd pl N x v S) else 0) 11
              · rw [if_pos c5, if_neg (by rw [nI_ltI (by omega) (by omega)]; omega)]
              · rw [if_neg c5, if_pos (by rw [nI_ltI (by omega) (by omega)]; omega)]
            have r2 : (st k).2.1 + nI (u (gv kd pl N x (val k) S)) = (st (k + 1)).2.1 := by
              show nI (card S + sumF (fun v => if kF q val k v = true then u (gv kd pl N x v S) else 0) 11) + _ = nI (card S + sumF (fun v => if kF q val (k + 1) v = true then u (gv kd pl N x v S) else 0) 11)
              rw [nI_add]
              congr 1
              omega
            rw [r1, r2]
        · rw [if_pos (by rw [if_neg c2])]
          have hsame : kF q val (k + 1) = kF q val k := kF_same (by
            cases e : q k
            · exact .inl rfl
            · rw [e] at c2; simp at c2; exact .inr c2)
          rw [hsame, if_neg c]
          show Sum.inl _ = Sum.inl (st (k + 1))
          have : st (k + 1) = st k := by
            show (nI (maxF (fun v => if kF q val (k + 1) v = true then _ else 0) 11), nI (card S + sumF (fun v => if kF q val (k + 1) v = true then _ else 0) 11), nI (maskF (fun t => q t && !kF q val (k + 1) (val t)) N)) = _
            rw [hsame]
          rw [this]
  have hmem : ∀ v, v < 11 → (kF q val N v = true ↔ gv kd pl N x v S ≠ 0) := by
    intro v hv11
    rw [kF_iff, gv_q hv hv11 (val9 := 0)]
    constructor
    · rintro ⟨t, h1, h2, h3⟩ e
      have := maskF_testBit (fun t => qF S x t && decide (val t = v)) N t
      rw [e, decide_eq_true h1, decide_eq_true h3, Bool.true_and, Bool.and_true] at this
      rw [Nat.zero_testBit] at this
      exact absurd (this.trans h2) (by decide)
    · intro hne
      obtain ⟨t, ht⟩ := Nat.exists_testBit_of_ne_zero hne
      rw [maskF_testBit, Bool.and_eq_true, Bool.and_eq_true, decide_eq_true_iff, decide_eq_true_iff] at ht
      exact ⟨t, ht.1, ht.2.1, ht.2.2⟩
  have hfull : (∃ v, v < 11 ∧ kF q val N v = true ∧ gv kd pl N x v S = S) ↔ FullP kd pl N x S := ⟨fun ⟨v, h1, _, h3⟩ => ⟨v, h1, h3⟩, fun ⟨v, h1, h3⟩ => ⟨v, h1, (hmem v h1).mpr (by omega), h3⟩⟩
  have e1 : maxF (fun v => if kF q val N v = true then w (gv kd pl N x v S) else 0) 11 = maxF (fun v => w (gv kd pl N x v S)) 11 := maxF_congr 11 (fun v hv11 => by
    show (if kF q val N v = true then w (gv kd pl N x v S) else 0) = w (gv kd pl N x v S)
    by_cases c : kF q val N v = true
    · rw [if_pos c]
    · have : gv kd pl N x v S = 0 := Classical.not_not.mp (fun h => c ((hmem v hv11).mpr h))
      rw [if_neg c, this, hw0])
  have e2 : sumF (fun v => if kF q val N v = true then u (gv kd pl N x v S) else 0) 11 = sumF (fun v => u (gv kd pl N x v S)) 11 := sumF_congr 11 (fun v hv11 => by
    show (if kF q val N v = true then u (gv kd pl N x v S) else 0) = u (gv kd pl N x v S)
    by_cases c : kF q val N v = true
    · rw [if_pos c]
    · have : gv kd pl N x v S = 0 := Classical.not_not.mp (fun h => c ((hmem v hv11).mpr h))
      rw [if_neg c, this, hu0])
  unfold fX0_tryAsking
  rw [h N (Nat.le_refl _)]
  by_cases c : FullP kd pl N x S
  · rw [if_pos (hfull.mpr c), if_pos c]; rfl
  · rw [if_neg (fun e => c (hfull.mp e)), if_neg c]
    show aX0_tryAsking_20 wo fi ni (nI S) (nI x) (nI _) (nI (card S + _)) (nI (R N)) = _
    rw [e1, e2]
    unfold aX0_tryAsking_20 fX0_worstOf fX0_nightsOf
    rw [at64 h64, at64 h64, wr64 h64, wr64 h64, wr64 h64, nI_1]
    by_cases c2 : wo S ≤ nI (maxF (fun v => w (gv kd pl N x v S)) 11 + 1)
    · rw [if_pos c2, if_pos c2, if_pos c2]
    · rw [if_neg c2, if_neg c2, if_neg c2]
end TA
theorem updupd {f : Nat → Int32} {i : Nat} {a b : Int32} : upd (upd f i a) i b = upd f i b := by
  funext j
  by_cases e : j = i
  · subst e; rw [pk_us, pk_us]
  · rw [pk_un e, pk_un e, pk_un e]
theorem updsame {f : Nat → Int32} {i : Nat} {x : Int32} (h : f i = x) : upd f i x = f := by
  funext j
  by_cases e : j = i
  · subst e; rw [pk_us, h]
  · rw [pk_un e]
section RW
variable (kd pl : Nat → Int32) (N : Nat)
abbrev dX (w : Nat → Nat) (S x : Nat) : Nat := maxF (fun v => w (gv kd pl N x v S)) 11 + 1
abbrev sX (u : Nat → Nat) (S x : Nat) : Nat := card S + sumF (fun v => u (gv kd pl N x v S)) 11
/-- one more answer asked about: its best depth, the first with it, its best sum -/
noncomputable def stp (w u : Nat → Nat) (S x : Nat) (b : Option (Nat × Nat × Nat)) : Option (Nat × Nat × Nat) := by
  classical
  exact if FullP kd pl N x S then b else match b with
    | none => some (dX kd pl N w S x, x, sX kd pl N u S x)
    | some r => some (if r.1 ≤ dX kd pl N w S x then r.1 else dX kd pl N w S x, if r.1 ≤ dX kd pl N w S x then r.2.1 else x, if r.2.2 ≤ sX kd pl N u S x then r.2.2 else sX kd pl N u S x)
noncomputable def row (w u : Nat → Nat) (S : Nat) : Nat → Option (Nat × Nat × Nat)
  | 0 => none
  | x + 1 => stp kd pl N w u S x (row w u S x)
noncomputable def tab : Nat → Nat → Nat × Nat × Nat
  | 0, _ => (0, 0, 0)
  | k + 1, T => if T = k + 1 then (row kd pl N (fun T => (tab k T).1) (fun T => (tab k T).2.2) (k + 1) N).getD (0, 0, 0) else tab k T
noncomputable def SW (T : Nat) : Nat := (tab kd pl N T T).1
noncomputable def SF (T : Nat) : Nat := (tab kd pl N T T).2.1
noncomputable def SU (T : Nat) : Nat := (tab kd pl N T T).2.2
variable {kd pl N}
theorem tab_le {T : Nat} : ∀ k, T ≤ k → tab kd pl N k T = tab kd pl N T T := by
  intro k
  induction k with
  | zero => intro h; have : T = 0 := by omega
            subst this; rfl
  | succ k ih =>
    intro h
    by_cases e : T = k + 1
    · subst e; rfl
    · show (if T = k + 1 then _ else tab kd pl N k T) = _
      rw [if_neg e, ih (by omega)]
theorem row_congr {w u w' u' : Nat → Nat} {S : Nat} (hS : S < 2 ^ N) (h : ∀ T, T < S → w T = w' T ∧ u T = u' T) : ∀ x, row kd pl N w u S x = row kd pl N w' u' S x := by
  intro x
  induction x with
  | zero => rfl
  | succ x ih =>
    show stp kd pl N w u S x (row kd pl N w u S x) = stp kd pl N w' u' S x (row kd pl N w' u' S x)
    rw [ih]
    unfold stp
    by_cases c : FullP kd pl N x S
    · rw [if_pos c, if_pos c]
    · have h1 : dX kd pl N w S x = dX kd pl N w' S x := congrArg (· + 1) (maxF_congr 11 (fun v hv => (h _ (gv_lt hS (fun e => c ⟨v, hv, e⟩))).1))
      have h2 : sX kd pl N u S x = sX kd pl N u' S x := congrArg (card S + ·) (sumF_congr 11 (fun v hv => (h _ (gv_lt hS (fun e => c ⟨v, hv, e⟩))).2))
      rw [if_neg c, if_neg c, h1, h2]
theorem SX_eq {S : Nat} (hS : S < 2 ^ N) (h0 : 0 < S) : (SW kd pl N S, SF kd pl N S, SU kd pl N S) = (row kd pl N (SW kd pl N) (SU kd pl N) S N).getD (0, 0, 0) := by
  obtain ⟨k, rfl⟩ : ∃ k, S = k + 1 := ⟨S - 1, by omega⟩
  have e : tab kd pl N (k + 1) (k + 1) = (row kd pl N (fun T => (tab kd pl N k T).1) (fun T => (tab kd pl N k T).2.2) (k + 1) N).getD (0, 0, 0) := by
    show (if k + 1 = k + 1 then _ else _) = _
    rw [if_pos rfl]
  rw [row_congr (w' := fun T => (tab kd pl N k T).1) (u' := fun T => (tab kd pl N k T).2.2) hS (fun T hT => ⟨by show (tab kd pl N T T).1 = _; rw [tab_le k (by omega)], by show (tab kd pl N T T).2.2 = _; rw [tab_le k (by omega)]⟩) N, ← e]
  rfl
theorem row_inv {w u : Nat → Nat} {S : Nat} : ∀ k, (row kd pl N w u S k = none → ∀ y, y < k → FullP kd pl N y S) ∧ (∀ a f q, row kd pl N w u S k = some (a, f, q) → f < k ∧ ¬ FullP kd pl N f S ∧ dX kd pl N w S f = a ∧ (∀ y, y < k → FullP kd pl N y S ∨ (a ≤ dX kd pl N w S y ∧ q ≤ sX kd pl N u S y)) ∧ (∀ y, y < f → FullP kd pl N y S ∨ a < dX kd pl N w S y) ∧ ∃ y, y < k ∧ ¬ FullP kd pl N y S ∧ q = sX kd pl N u S y) := by
  intro k
  induction k with
  | zero => exact ⟨fun _ y h => absurd h (Nat.not_lt_zero _), fun a f q h => by cases h⟩
  | succ k ih =>
    obtain ⟨i1, i2⟩ := ih
    have e : row kd pl N w u S (k + 1) = stp kd pl N w u S k (row kd pl N w u S k) := rfl
    rw [e]
    unfold stp
    by_cases c : FullP kd pl N k S
    · rw [if_pos c]
      refine ⟨fun h y hy => ?_, fun a f q h => ?_⟩
      · by_cases e : y = k
        · subst e; exact c
        · exact i1 h y (by omega)
      · obtain ⟨h1, h2, h3, h4, h5, y, h6, h7⟩ := i2 a f q h
        refine ⟨by omega, h2, h3, fun y hy => ?_, h5, y, by omega, h7⟩
        by_cases e : y = k
        · subst e; exact .inl c
        · exact h4 y (by omega)
    · rw [if_neg c]
      cases hr : row kd pl N w u S k with
      | none =>
        refine ⟨fun h => by simp at h, fun a f q h => ?_⟩
        simp only [Option.some.injEq, Prod.mk.injEq] at h
        obtain ⟨rfl, rfl, rfl⟩ := h
        have hall := i1 hr
        refine ⟨by omega, c, rfl, fun y hy => ?_, fun y hy => .inl (hall y hy), k, by omega, c, rfl⟩
        by_cases e : y = k
        · subst e; exact .inr ⟨Nat.le_refl _, Nat.le_refl _⟩
        · exact .inl (hall y (by omega))
      | some r =>
        obtain ⟨a0, f0, q0⟩ := r
        refine ⟨fun h => by simp at h, fun a f q h => ?_⟩
        obtain ⟨h1, h2, h3, h4, h5, y0, h6, h7, h8⟩ := i2 a0 f0 q0 hr
        simp only [Option.some.injEq, Prod.mk.injEq] at h
        obtain ⟨ea, ef, eq⟩ := h
        have hq : q ≤ q0 ∧ q ≤ sX kd pl N u S k ∧ (q = q0 ∨ q = sX kd pl N u S k) := by
          rw [← eq]; split <;> omega
        have hy : ∃ y, y < k + 1 ∧ ¬ FullP kd pl N y S ∧ q = sX kd pl N u S y := by
          rcases hq.2.2 with e | e
          · exact ⟨y0, by omega, h7, e.trans h8⟩
          · exact ⟨k, by omega, c, e⟩
        by_cases c2 : a0 ≤ dX kd pl N w S k
        · rw [if_pos c2] at ea ef
          subst ea; subst ef
          refine ⟨by omega, h2, h3, fun y hy => ?_, h5, hy⟩
          by_cases e : y = k
          · subst e; exact .inr ⟨c2, hq.2.1⟩
          · rcases h4 y (by omega) with h | h
            · exact .inl h
            · exact .inr ⟨h.1, by omega⟩
        · rw [if_neg c2] at ea ef
          subst ea; subst ef
          refine ⟨by omega, c, rfl, fun y hy => ?_, fun y hy => ?_, hy⟩
          · by_cases e : y = k
            · subst e; exact .inr ⟨Nat.le_refl _, hq.2.1⟩
            · rcases h4 y (by omega) with h | h
              · exact .inl h
              · exact .inr ⟨by omega, by omega⟩
          · rcases h4 y hy with h | h
            · exact .inl h
            · exact .inr (by omega)
/-- shown by an answer of a set itself: it is in no group -/
def ShN (kd pl : Nat → Int32) (N : Nat) : Prop := ∀ x, x < N → ∃ val, ShV kd pl N x val
theorem gv_nx {x v S : Nat} (hsh : ShN kd pl N) (hx : x < N) (hv11 : v < 11) : (gv kd pl N x v S).testBit x = false := by
  obtain ⟨val, hv⟩ := hsh x hx
  rw [gv_q hv hv11 (val9 := 0), maskF_testBit]
  simp [qF]
theorem notFull {i S : Nat} (hsh : ShN kd pl N) (hi : i < N) (ht : S.testBit i = true) : ¬ FullP kd pl N i S := by
  rintro ⟨v, h1, h2⟩
  have := gv_nx (S := S) hsh hi h1
  rw [h2, ht] at this
  cases this
theorem mem_of_pos {S : Nat} (hS : S < 2 ^ N) (h0 : 0 < S) : ∃ i, i < N ∧ S.testBit i = true := by
  obtain ⟨i, hi⟩ := Nat.exists_testBit_of_ne_zero (by omega : S ≠ 0)
  refine ⟨i, ?_, hi⟩
  rcases Nat.lt_or_ge i N with h | h
  · exact h
  · rw [Nat.testBit_lt_two_pow (Nat.lt_of_lt_of_le hS (Nat.pow_le_pow_right (by decide) h))] at hi; cases hi
theorem sum_gv {x S : Nat} (hsh : ShN kd pl N) (hx : x < N) (hS : S < 2 ^ N) : sumF (fun v => gv kd pl N x v S) 11 ≤ S ∧ (S.testBit x = true → sumF (fun v => gv kd pl N x v S) 11 < S) := by
  obtain ⟨val, hv⟩ := hsh x hx
  have e : sumF (fun v => gv kd pl N x v S) 11 = sumF (fun v => maskF (fun t => qF S x t && decide (val t = v)) N) 11 := sumF_congr 11 (fun v hv11 => gv_q hv hv11 (val9 := 0))
  have h1 : sumF (fun v => maskF (fun t => qF S x t && decide (val t = v)) N) 11 ≤ maskF (qF S x) N := sumF_mask (p := fun v t => qF S x t && decide (val t = v)) (fun v t h => by rw [Bool.and_eq_true] at h; exact h.1) (fun v v' t h h' => by
    simp only [Bool.and_eq_true, decide_eq_true_iff] at h h'; exact h.2.symm.trans h'.2) 11 N
  have h2 : maskF (qF S x) N ≤ S := by
    have := maskF_le (p := qF S x) (q := S.testBit) N (fun i _ h => by simp only [qF, Bool.and_eq_true] at h; exact h.1)
    rw [maskF_self hS] at this; exact this
  rw [e]
  refine ⟨by omega, fun ht => ?_⟩
  have : maskF (qF S x) N ≠ S := fun h => by
    have h3 := maskF_testBit (qF S x) N x
    rw [h, ht] at h3
    simp [qF] at h3
  omega
theorem dX_le {w : Nat → Nat} {x S : Nat} (hS : S < 2 ^ N) (hw : ∀ T, T < S → w T ≤ T) (h0 : 0 < S) (hf : ¬ FullP kd pl N x S) : dX kd pl N w S x ≤ S := by
  have : maxF (fun v => w (gv kd pl N x v S)) 11 ≤ S - 1 := maxF_le 11 (fun v hv => by
    have h1 := gv_lt hS (fun e => hf ⟨v, hv, e⟩)
    have := hw _ h1
    show w (gv kd pl N x v S) ≤ S - 1
    omega)
  show _ + 1 ≤ S
  omega
theorem sX_le {u : Nat → Nat} {x S : Nat} (hN : N ≤ 6) (hsh : ShN kd pl N) (hx : x < N) (hS : S < 2 ^ N) (hu : ∀ T, T < S → u T ≤ 6 * T) (hf : ¬ FullP kd pl N x S) : sX kd pl N u S x ≤ 6 + 6 * S ∧ (S.testBit x = true → sX kd pl N u S x ≤ 6 * S) := by
  have h64 : S < 64 := Nat.lt_of_lt_of_le hS (pow64 hN)
  have h1 : sumF (fun v => u (gv kd pl N x v S)) 11 ≤ sumF (fun v => 6 * gv kd pl N x v S) 11 := sumF_le 11 (fun v hv => hu _ (gv_lt hS (fun e => hf ⟨v, hv, e⟩)))
  rw [sumF_mul 6 (fun v => gv kd pl N x v S) 11] at h1
  have h2 := sum_gv (S := S) hsh hx hS
  have h3 := card_le h64
  refine ⟨by show card S + _ ≤ _; omega, fun ht => ?_⟩
  have := h2.2 ht
  show card S + _ ≤ _
  omega
theorem row_some {w u : Nat → Nat} {S : Nat} (hN : N ≤ 6) (hsh : ShN kd pl N) (hS : S < 2 ^ N) (h0 : 0 < S) (hw : ∀ T, T < S → w T ≤ T ∧ u T ≤ 6 * T) : ∃ a f q, row kd pl N w u S N = some (a, f, q) ∧ a ≤ S ∧ q ≤ 6 * S ∧ f < N ∧ ¬ FullP kd pl N f S ∧ dX kd pl N w S f = a ∧ (∀ y, y < f → FullP kd pl N y S ∨ a < dX kd pl N w S y) := by
  obtain ⟨i, hi, ht⟩ := mem_of_pos hS h0
  have hnf := notFull hsh hi ht
  obtain ⟨i1, i2⟩ := row_inv (kd := kd) (pl := pl) (N := N) (w := w) (u := u) (S := S) N
  cases hr : row kd pl N w u S N with
  | none => exact absurd (i1 hr i hi) hnf
  | some r =>
    obtain ⟨a, f, q⟩ := r
    obtain ⟨h1, h2, h3, h4, h5, -⟩ := i2 a f q hr
    refine ⟨a, f, q, rfl, ?_, ?_, h1, h2, h3, h5⟩
    · rw [← h3]; exact dX_le hS (fun T hT => (hw T hT).1) h0 h2
    · rcases h4 i hi with h | h
      · exact absurd h hnf
      · have := (sX_le hN hsh hi hS (fun T hT => (hw T hT).2) hnf).2 ht
        omega
/-- what the plan says of a set -/
theorem SX_some (hN : N ≤ 6) (hsh : ShN kd pl N) : ∀ S, S < 2 ^ N → SW kd pl N S ≤ S ∧ SU kd pl N S ≤ 6 * S ∧ (0 < S → row kd pl N (SW kd pl N) (SU kd pl N) S N = some (SW kd pl N S, SF kd pl N S, SU kd pl N S) ∧ SF kd pl N S < N ∧ ¬ FullP kd pl N (SF kd pl N S) S ∧ dX kd pl N (SW kd pl N) S (SF kd pl N S) = SW kd pl N S ∧ (∀ y, y < SF kd pl N S → FullP kd pl N y S ∨ SW kd pl N S < dX kd pl N (SW kd pl N) S y)) := by
  intro S
  induction S using Nat.strongRecOn with
  | _ S ih =>
    intro hS
    rcases Nat.eq_zero_or_pos S with h0 | h0
    · subst h0
      exact ⟨Nat.le_refl _, Nat.zero_le _, fun h => absurd h (Nat.not_lt_zero _)⟩
    · obtain ⟨a, f, q, h1, h2, h3, h4, h5, h6, h7⟩ := row_some (w := SW kd pl N) (u := SU kd pl N) hN hsh hS h0 (fun T hT => ⟨(ih T hT (by omega)).1, (ih T hT (by omega)).2.1⟩)
      have e := SX_eq (kd := kd) (pl := pl) hS h0
      rw [h1] at e
      simp only [Option.getD_some, Prod.mk.injEq] at e
      obtain ⟨ea, ef, eq⟩ := e
      rw [ea, ef, eq]
      exact ⟨h2, h3, fun _ => ⟨h1, h4, h5, h6, h7⟩⟩
end RW
def shE3 (k p q : Int32) : Int32 := (if k = 1 then ((if 0 ≤ (p - q) then (p - q) else 0 - (p - q)) + 1) else (if k = 2 then ((if 0 ≤ (p - q) then (p - q) else 0 - (p - q)) / 2) else (if 0 ≤ (p - q) then (p - q) else 0 - (p - q))))
def shE4 (k p q : Int32) : Int32 := (if q ≤ p then (if k = 0 then (p - q) else (if k = 1 then ((p - q) + 1) else ((p - q) / 2))) else (if k = 0 then (q - p) else (if k = 1 then ((q - p) + 1) else ((q - p) / 2))))
theorem shB : ∀ a : Fin 3, ∀ b c : Fin 10, shE3 (nI a.val) (nI b.val) (nI c.val) = shE4 (nI a.val) (nI b.val) (nI c.val) ∧ shE4 (nI a.val) (nI b.val) (nI c.val) = nI (shE4 (nI a.val) (nI b.val) (nI c.val)).toNatClampNeg ∧ (shE4 (nI a.val) (nI b.val) (nI c.val)).toNatClampNeg < 11 := by decide +kernel
theorem sh3 (kd pl : Nat → Int32) (x t : Int32) : fX1_shownBy kd pl x t = if x = t then -9 else shE3 (fX3_at 6 kd x) (fX3_at 6 pl x) (fX3_at 6 pl t) := rfl
theorem sh4 (kd pl : Nat → Int32) (x t : Int32) : fX4_shownBy kd pl x t = if x = t then -9 else shE4 (kd x.toNatClampNeg) (pl x.toNatClampNeg) (pl t.toNatClampNeg) := rfl
/-- the reference's answers, alone -/
def rM (N : Nat) (kd pl : Nat → Int32) : Prop := N ≤ 6 ∧ ∀ j, j < N → (∃ a, a ≤ 2 ∧ kd j = nI a) ∧ ∃ b, b ≤ 9 ∧ pl j = nI b
theorem rA_M {N : Nat} {an : Int32} {kd pl mkd mpl : Nat → Int32} (h : rA N an kd pl mkd mpl) : rM N mkd mpl := ⟨h.2.1, fun j hj => by
  rw [rA_kd h hj, rA_pl h hj]; exact (h.2.2 j hj).2.2⟩
theorem eSh {N : Nat} {an : Int32} {kd pl mkd mpl : Nat → Int32} (h : rA N an kd pl mkd mpl) {x t : Nat} (hx : x < N) (ht : t < N) : fX1_shownBy kd pl (nI x) (nI t) = fX4_shownBy mkd mpl (nI x) (nI t) := by
  have hx6 := rA_6 h hx
  have ht6 := rA_6 h ht
  rw [sh3, sh4, at6 hx6, at6 hx6, at6 ht6, nI_clamp (by omega), nI_clamp (by omega), rA_kd h hx, rA_pl h hx, rA_pl h ht]
  obtain ⟨-, -, ⟨a, ha, ea⟩, ⟨b, hb, eb⟩⟩ := h.2.2 x hx
  obtain ⟨-, -, -, ⟨c, hc, ec⟩⟩ := h.2.2 t ht
  rw [ea, eb, ec, (shB ⟨a, by omega⟩ ⟨b, by omega⟩ ⟨c, by omega⟩).1]
theorem shV {N : Nat} {kd pl : Nat → Int32} (h : rM N kd pl) {x t : Nat} (hx : x < N) (ht : t < N) (htx : t ≠ x) : fX4_shownBy kd pl (nI x) (nI t) = nI (fX4_shownBy kd pl (nI x) (nI t)).toNatClampNeg ∧ (fX4_shownBy kd pl (nI x) (nI t)).toNatClampNeg < 11 := by
  have := h.1
  have e : fX4_shownBy kd pl (nI x) (nI t) = shE4 (kd x) (pl x) (pl t) := by
    rw [sh4, if_neg (fun e => htx ((nI_eq (by omega) (by omega)).mp e).symm), nI_clamp (by omega), nI_clamp (by omega)]
  rw [e]
  obtain ⟨⟨a, ha, ea⟩, ⟨b, hb, eb⟩⟩ := h.2 x hx
  obtain ⟨-, ⟨c, hc, ec⟩⟩ := h.2 t ht
  rw [ea, eb, ec]
  have hs := shB ⟨a, by omega⟩ ⟨b, by omega⟩ ⟨c, by omega⟩
  exact hs.2
theorem rM_sh {N : Nat} {kd pl : Nat → Int32} (h : rM N kd pl) : ShN kd pl N := fun x hx => ⟨fun t => (fX4_shownBy kd pl (nI x) (nI t)).toNatClampNeg, by rw [sh4, if_pos rfl], fun t ht htx => shV h hx ht htx⟩
theorem alike_eq {N : Nat} {an : Int32} {kd pl mkd mpl : Nat → Int32} (h : rA N an kd pl mkd mpl) {x t : Nat} (hx : x < N) (ht : t < N) : fX1_alike kd pl N (nI x) (nI t) = nI (maskF (fun o => decide (fX4_shownBy mkd mpl (nI x) (nI o) = fX4_shownBy mkd mpl (nI x) (nI t))) N) := by
  unfold fX1_alike aX1_alike_13
  have hg : ∀ k, k ≤ N → lp (fun k a => sX1_alike_13 kd pl (nI x) (nI t) k a) 0 k = nI (maskF (fun o => decide (fX4_shownBy mkd mpl (nI x) (nI o) = fX4_shownBy mkd mpl (nI x) (nI t))) k) := by
    intro k
    induction k with
    | zero => intro _; rfl
    | succ k ih =>
      intro hk
      have := rA_6 h (by omega : k < N)
      show sX1_alike_13 kd pl (nI x) (nI t) k (lp (fun k a => sX1_alike_13 kd pl (nI x) (nI t) k a) 0 k) = nI (maskF _ k + _)
      rw [ih (by omega), maskF_or]
      unfold sX1_alike_13
      rw [eSh h hx (by omega), eSh h hx ht]
      by_cases c : fX4_shownBy mkd mpl (nI x) (nI k) = fX4_shownBy mkd mpl (nI x) (nI t)
      · rw [if_pos c, if_pos (decide_eq_true c), mP2 (by omega), mOr]
      · rw [if_neg c, if_neg (by rw [decide_eq_false c]; decide)]
  exact hg N (Nat.le_refl _)
section L4
variable {kd pl : Nat → Int32} {N : Nat}
def e9 (b : Option (Nat × Nat × Nat)) : Int32 := match b with | none => -9 | some r => nI r.1
def e9u (b : Option (Nat × Nat × Nat)) : Int32 := match b with | none => -9 | some r => nI r.2.2
theorem fa_if3 {f : Nat → Int32} {i : Nat} {a b : Int32} {P Q R : Prop} [Decidable P] [Decidable Q] [Decidable R] : (if P then upd f i a else if Q then upd f i b else if R then upd f i a else upd f i b) = upd f i (if P then a else if Q then b else if R then a else b) := by
  split
  · rfl
  · split
    · rfl
    · split <;> rfl
theorem refStep {wo su : Nat → Int32} {k x : Nat} {wv sv : Int32} (hk : k + 1 < 2 ^ 31) (hw : fX4_worstBy kd pl wo N (nI x) (nI (k + 1)) = wv) (hs : fX4_sumBy kd pl su N (k + 1) (nI x) (nI (k + 1)) = sv) :
    sX4_findWorst_39 kd pl N k x wo su = (upd wo (k + 1) (if wv = -9 then wo (k + 1) else if wo (k + 1) = -9 then wv else if wo (k + 1) ≤ wv then wo (k + 1) else wv), upd su (k + 1) (if sv = -9 then su (k + 1) else if su (k + 1) = -9 then sv else if su (k + 1) ≤ sv then su (k + 1) else sv)) := by
  unfold sX4_findWorst_39
  rw [hw, hs, nI_clamp hk]
  have h3 : ∀ {α : Type} (x y0 y1 : α), (if sv = -9 then (x, y0) else if su (k + 1) = -9 then (x, y1) else if su (k + 1) ≤ sv then (x, y0) else (x, y1)) = (x, if sv = -9 then y0 else if su (k + 1) = -9 then y1 else if su (k + 1) ≤ sv then y0 else y1) := by
    intro α x y0 y1
    split
    · rfl
    · split
      · rfl
      · split <;> rfl
  simp only [h3]
  by_cases c1 : wv = -9
  · simp only [if_pos c1, fa_if3]
  · simp only [if_neg c1]
    by_cases c2 : wo (k + 1) = -9
    · simp only [if_pos c2, fa_if3]
    · simp only [if_neg c2]
      by_cases c3 : wo (k + 1) ≤ wv
      · simp only [if_pos c3, fa_if3]
      · simp only [if_neg c3, fa_if3]
end L4
section L5
variable {kd pl : Nat → Int32} {N : Nat}
theorem m9n {v : Nat} (h : v < 2 ^ 31) : ¬ nI v = (-9 : Int32) := fun e => m9ne h e.symm
theorem ref_x (hM : rM N kd pl) {wo su : Nat → Int32} {k : Nat} (hS : k + 1 < 2 ^ N) (hw : ∀ T, T ≤ k → wo T = nI (SW kd pl N T) ∧ su T = nI (SU kd pl N T)) : ∀ x, x ≤ N →
    lp (fun y a => sX4_findWorst_39 kd pl N k y a.1 a.2) (upd wo (k + 1) (-9), upd su (k + 1) (-9)) x = (upd wo (k + 1) (e9 (row kd pl N (SW kd pl N) (SU kd pl N) (k + 1) x)), upd su (k + 1) (e9u (row kd pl N (SW kd pl N) (SU kd pl N) (k + 1) x))) := by
  have hN := hM.1
  have hsh := rM_sh hM
  have h64 : k + 1 < 64 := Nat.lt_of_lt_of_le hS (pow64 hN)
  intro x
  induction x with
  | zero => intro _; rfl
  | succ x ih =>
    intro hx
    rw [lp_succ, ih (by omega)]
    dsimp only
    have hb : ∀ T, T < k + 1 → SW kd pl N T ≤ T ∧ SU kd pl N T ≤ 6 * T := fun T hT => ⟨(SX_some hN hsh T (by omega)).1, (SX_some hN hsh T (by omega)).2.1⟩
    have w1 : ∀ T, T < k + 1 → upd wo (k + 1) (e9 (row kd pl N (SW kd pl N) (SU kd pl N) (k + 1) x)) T = nI (SW kd pl N T) ∧ SW kd pl N T ≤ 63 := fun T hT => by
      rw [pk_un (by omega)]; exact ⟨(hw T (by omega)).1, by have := (hb T hT).1; omega⟩
    have u1 : ∀ T, T < k + 1 → upd su (k + 1) (e9u (row kd pl N (SW kd pl N) (SU kd pl N) (k + 1) x)) T = nI (SU kd pl N T) := fun T hT => by
      rw [pk_un (by omega)]; exact (hw T (by omega)).2
    have hwb := worstBy_eq (kd := kd) (pl := pl) (x := x) hN hS w1
    have hsb := sumBy_eq (kd := kd) (pl := pl) (x := x) hN hS u1
    rw [refStep (by omega) hwb hsb, updupd, updupd, pk_us, pk_us]
    have er : row kd pl N (SW kd pl N) (SU kd pl N) (k + 1) (x + 1) = stp kd pl N (SW kd pl N) (SU kd pl N) (k + 1) x (row kd pl N (SW kd pl N) (SU kd pl N) (k + 1) x) := rfl
    rw [er]
    unfold stp
    by_cases c : FullP kd pl N x (k + 1)
    · rw [if_pos c, if_pos c, if_pos c, if_pos rfl, if_pos rfl]
    · have hd := dX_le hS (fun T hT => (hb T hT).1) (by omega) c
      have hs := (sX_le hN hsh (by omega : x < N) hS (fun T hT => (hb T hT).2) c).1
      rw [if_neg c, if_neg c, if_neg c, if_neg (m9n (by show dX kd pl N (SW kd pl N) (k + 1) x < _; omega)), if_neg (m9n (by show sX kd pl N (SU kd pl N) (k + 1) x < _; omega))]
      obtain ⟨-, i2⟩ := row_inv (kd := kd) (pl := pl) (N := N) (w := SW kd pl N) (u := SU kd pl N) (S := k + 1) x
      cases hr : row kd pl N (SW kd pl N) (SU kd pl N) (k + 1) x with
      | none => rw [if_pos (show e9 none = -9 from rfl), if_pos (show e9u none = -9 from rfl)]; rfl
      | some r =>
        obtain ⟨a, f, q⟩ := r
        obtain ⟨h1, h2, h3, -, -, y, h6, h7, h8⟩ := i2 a f q hr
        have ha := dX_le hS (fun T hT => (hb T hT).1) (by omega) h2
        rw [h3] at ha
        have hq := (sX_le hN hsh (by omega : y < N) hS (fun T hT => (hb T hT).2) h7).1
        rw [← h8] at hq
        rw [if_neg (show ¬ e9 (some (a, f, q)) = -9 from m9n (v := a) (by omega)), if_neg (show ¬ e9u (some (a, f, q)) = -9 from m9n (v := q) (by omega))]
        have p1 : (if e9 (some (a, f, q)) ≤ nI (maxF (fun v => SW kd pl N (gv kd pl N x v (k + 1))) 11 + 1) then e9 (some (a, f, q)) else nI (maxF (fun v => SW kd pl N (gv kd pl N x v (k + 1))) 11 + 1)) = nI (if a ≤ dX kd pl N (SW kd pl N) (k + 1) x then a else dX kd pl N (SW kd pl N) (k + 1) x) := by
          show (if nI a ≤ nI (dX kd pl N (SW kd pl N) (k + 1) x) then nI a else nI (dX kd pl N (SW kd pl N) (k + 1) x)) = _
          by_cases c2 : a ≤ dX kd pl N (SW kd pl N) (k + 1) x
          · rw [if_pos c2, if_pos ((nI_leI (by omega) (by omega)).mpr c2)]
          · rw [if_neg c2, if_neg (fun e => c2 ((nI_leI (by omega) (by omega)).mp e))]
        have p2 : (if e9u (some (a, f, q)) ≤ nI (card (k + 1) + sumF (fun v => SU kd pl N (gv kd pl N x v (k + 1))) 11) then e9u (some (a, f, q)) else nI (card (k + 1) + sumF (fun v => SU kd pl N (gv kd pl N x v (k + 1))) 11)) = nI (if q ≤ sX kd pl N (SU kd pl N) (k + 1) x then q else sX kd pl N (SU kd pl N) (k + 1) x) := by
          show (if nI q ≤ nI (sX kd pl N (SU kd pl N) (k + 1) x) then nI q else nI (sX kd pl N (SU kd pl N) (k + 1) x)) = _
          by_cases c2 : q ≤ sX kd pl N (SU kd pl N) (k + 1) x
          · rw [if_pos c2, if_pos ((nI_leI (by omega) (by omega)).mpr c2)]
          · rw [if_neg c2, if_neg (fun e => c2 ((nI_leI (by omega) (by omega)).mp e))]
        rw [p1, p2]; rfl
theorem ref_k (hM : rM N kd pl) {wo su : Nat → Int32} (h0 : wo 0 = 0 ∧ su 0 = 0) : ∀ k, k < 2 ^ N → ∀ T, T ≤ k →
    (lp (fun k a => sX4_findWorst_16 kd pl N k a.1 a.2) (wo, su) k).1 T = nI (SW kd pl N T) ∧ (lp (fun k a => sX4_findWorst_16 kd pl N k a.1 a.2) (wo, su) k).2 T = nI (SU kd pl N T) := by
  have hN := hM.1
  intro k
  induction k with
  | zero => intro _ T hT; have : T = 0 := by omega
            subst this; exact ⟨h0.1, h0.2⟩
  | succ k ih =>
    intro hk T hT
    have hk31 : k + 1 < 2 ^ 31 := by have := pow64 hN; omega
    have hx := ref_x hM hk (ih (by omega)) N (Nat.le_refl _)
    have e : lp (fun k a => sX4_findWorst_16 kd pl N k a.1 a.2) (wo, su) (k + 1) = sX4_findWorst_16 kd pl N k (lp (fun k a => sX4_findWorst_16 kd pl N k a.1 a.2) (wo, su) k).1 (lp (fun k a => sX4_findWorst_16 kd pl N k a.1 a.2) (wo, su) k).2 := rfl
    have e2 : ∀ A B, sX4_findWorst_16 kd pl N k A B = lp (fun y a => sX4_findWorst_39 kd pl N k y a.1 a.2) (upd A (k + 1) (-9), upd B (k + 1) (-9)) N := by
      intro A B
      unfold sX4_findWorst_16 aX4_findWorst_39
      rw [nI_clamp hk31]
    rw [e, e2, hx]
    have hs := (SX_some hN (rM_sh hM) (k + 1) hk).2.2 (by omega)
    rw [hs.1]
    by_cases c : T = k + 1
    · subst c; show upd _ _ _ _ = _ ∧ upd _ _ _ _ = _; rw [pk_us, pk_us]; exact ⟨rfl, rfl⟩
    · show upd _ _ _ _ = _ ∧ upd _ _ _ _ = _; rw [pk_un c, pk_un c]; exact ih (by omega) T (by omega)
/-- the reference's tables -/
theorem ref_tab (hM : rM N kd pl) {wo su : Nat → Int32} {Mo : Nat} (h : Mo < 2 ^ N) {T : Nat} (hT : T ≤ Mo) : (fX4_findWorst kd pl wo su N Mo).1 T = nI (SW kd pl N T) ∧ (fX4_findWorst kd pl wo su N Mo).2 T = nI (SU kd pl N T) :=
  ref_k hM (wo := upd wo (Int32.toNatClampNeg 0) 0) (su := upd su (Int32.toNatClampNeg 0) 0) ⟨pk_us, pk_us⟩ Mo h T hT
def c9 (b : Option (Nat × Nat × Nat)) : Int32 := match b with | none => 1000 | some r => nI r.1
def c9u (b : Option (Nat × Nat × Nat)) : Int32 := match b with | none => 1000 | some r => nI r.2.2
def c9f (fi : Nat → Int32) (S : Nat) (b : Option (Nat × Nat × Nat)) : Nat → Int32 := match b with | none => fi | some r => upd fi S (nI r.2.1)
theorem cls_x (hM : rM N kd pl) {al wo fi ni : Nat → Int32} {k : Nat} (hS : k + 1 < 2 ^ N) (hal : ∀ x, x < N → ∀ t, t < N → al (x * 6 + t) = nI (maskF (fun o => decide (fX4_shownBy kd pl (nI x) (nI o) = fX4_shownBy kd pl (nI x) (nI t))) N)) (hw : ∀ T, T ≤ k → wo T = nI (SW kd pl N T) ∧ ni T = nI (SU kd pl N T)) : ∀ x, x ≤ N →
    lp (fun y a => sX0_make_93 N al k y a.1 a.2.1 a.2.2) (upd wo (k + 1) 1000, fi, upd ni (k + 1) 1000) x = (upd wo (k + 1) (c9 (row kd pl N (SW kd pl N) (SU kd pl N) (k + 1) x)), c9f fi (k + 1) (row kd pl N (SW kd pl N) (SU kd pl N) (k + 1) x), upd ni (k + 1) (c9u (row kd pl N (SW kd pl N) (SU kd pl N) (k + 1) x))) := by
  have hN := hM.1
  have hsh := rM_sh hM
  have h64 : k + 1 < 64 := Nat.lt_of_lt_of_le hS (pow64 hN)
  intro x
  induction x with
  | zero => intro _; rfl
  | succ x ih =>
    intro hx
    rw [lp_succ, ih (by omega)]
    dsimp only
    unfold sX0_make_93
    have hb : ∀ T, T < k + 1 → SW kd pl N T ≤ T ∧ SU kd pl N T ≤ 6 * T := fun T hT => ⟨(SX_some hN hsh T (by omega)).1, (SX_some hN hsh T (by omega)).2.1⟩
    have w1 : ∀ T, T < k + 1 → upd wo (k + 1) (c9 (row kd pl N (SW kd pl N) (SU kd pl N) (k + 1) x)) T = nI (SW kd pl N T) ∧ SW kd pl N T ≤ 63 := fun T hT => by
      rw [pk_un (by omega)]; exact ⟨(hw T (by omega)).1, by have := (hb T hT).1; omega⟩
    have u1 : ∀ T, T < k + 1 → upd ni (k + 1) (c9u (row kd pl N (SW kd pl N) (SU kd pl N) (k + 1) x)) T = nI (SU kd pl N T) := fun T hT => by
      rw [pk_un (by omega)]; exact (hw T (by omega)).2
    obtain ⟨val, hv⟩ := hsh x (by omega)
    have ht := try_eq (fi := c9f fi (k + 1) (row kd pl N (SW kd pl N) (SU kd pl N) (k + 1) x)) hN (by omega : x < N) hS (by omega) hv (hal x (by omega)) w1 u1 (Nat.le_zero.mp (SX_some hN hsh 0 (by omega)).1) (Nat.le_zero.mp (SX_some hN hsh 0 (by omega)).2.1)
    rw [ht]
    have er : row kd pl N (SW kd pl N) (SU kd pl N) (k + 1) (x + 1) = stp kd pl N (SW kd pl N) (SU kd pl N) (k + 1) x (row kd pl N (SW kd pl N) (SU kd pl N) (k + 1) x) := rfl
    rw [er]
    unfold stp
    by_cases c : FullP kd pl N x (k + 1)
    · rw [if_pos c, if_pos c]
    · have hd := dX_le hS (fun T hT => (hb T hT).1) (by omega) c
      have hs := (sX_le hN hsh (by omega : x < N) hS (fun T hT => (hb T hT).2) c).1
      rw [if_neg c, if_neg c, pk_us, pk_us]
      obtain ⟨-, i2⟩ := row_inv (kd := kd) (pl := pl) (N := N) (w := SW kd pl N) (u := SU kd pl N) (S := k + 1) x
      show ((if _ ≤ nI (dX kd pl N (SW kd pl N) (k + 1) x) then _ else upd _ (k + 1) (nI (dX kd pl N (SW kd pl N) (k + 1) x))), (if _ ≤ nI (dX kd pl N (SW kd pl N) (k + 1) x) then _ else _), upd _ (k + 1) (if nI (sX kd pl N (SU kd pl N) (k + 1) x) < _ then nI (sX kd pl N (SU kd pl N) (k + 1) x) else _)) = _
      have key : ∀ (A F Q : Nat) (G : Nat → Int32), (A : Nat) < 2 ^ 31 → Q < 2 ^ 31 → (G = fi ∨ ∃ f, G = upd fi (k + 1) (nI f)) → ((if nI A ≤ nI (dX kd pl N (SW kd pl N) (k + 1) x) then upd wo (k + 1) (nI A) else upd (upd wo (k + 1) (nI A)) (k + 1) (nI (dX kd pl N (SW kd pl N) (k + 1) x))), (if nI A ≤ nI (dX kd pl N (SW kd pl N) (k + 1) x) then G else upd G (k + 1) (nI x)), upd (upd ni (k + 1) (nI Q)) (k + 1) (if nI (sX kd pl N (SU kd pl N) (k + 1) x) < nI Q then nI (sX kd pl N (SU kd pl N) (k + 1) x) else nI Q)) = (upd wo (k + 1) (nI (if A ≤ dX kd pl N (SW kd pl N) (k + 1) x then A else dX kd pl N (SW kd pl N) (k + 1) x)), (if A ≤ dX kd pl N (SW kd pl N) (k + 1) x then G else upd fi (k + 1) (nI x)), upd ni (k + 1) (nI (if Q ≤ sX kd pl N (SU kd pl N) (k + 1) x then Q else sX kd pl N (SU kd pl N) (k + 1) x))) := by
        intro A F Q G hA hQ hG
        have hG2 : upd G (k + 1) (nI x) = upd fi (k + 1) (nI x) := by
          rcases hG with e | ⟨f, e⟩
          · rw [e]
          · rw [e, updupd]
        rw [updupd, updupd, hG2]
        have q1 : (if nI (sX kd pl N (SU kd pl N) (k + 1) x) < nI Q then nI (sX kd pl N (SU kd pl N) (k + 1) x) else nI Q) = nI (if Q ≤ sX kd pl N (SU kd pl N) (k + 1) x then Q else sX kd pl N (SU kd pl N) (k + 1) x) := by
          by_cases c2 : Q ≤ sX kd pl N (SU kd pl N) (k + 1) x
          · rw [if_pos c2, if_neg (by rw [nI_ltI (by omega) hQ]; omega)]
          · rw [if_neg c2, if_pos (by rw [nI_ltI (by omega) hQ]; omega)]
        rw [q1]
        by_cases c2 : A ≤ dX kd pl N (SW kd pl N) (k + 1) x
        · have c3 := (nI_leI hA (by omega)).mpr c2
          rw [if_pos c2, if_pos c3, if_pos c3, if_pos c2]
        · have c3 : ¬ nI A ≤ nI (dX kd pl N (SW kd pl N) (k + 1) x) := fun e => c2 ((nI_leI hA (by omega)).mp e)
          rw [if_neg c2, if_neg c3, if_neg c3, if_neg c2]
      cases hr : row kd pl N (SW kd pl N) (SU kd pl N) (k + 1) x with
      | none =>
        have h1 := key 1000 0 1000 fi (by decide) (by decide) (.inl rfl)
        rw [if_neg (by omega : ¬ 1000 ≤ dX kd pl N (SW kd pl N) (k + 1) x), if_neg (by omega : ¬ 1000 ≤ dX kd pl N (SW kd pl N) (k + 1) x), if_neg (by omega : ¬ 1000 ≤ sX kd pl N (SU kd pl N) (k + 1) x)] at h1
        exact h1
      | some r =>
        obtain ⟨a, f, q⟩ := r
        obtain ⟨h1, h2, h3, -, -, y, h6, h7, h8⟩ := i2 a f q hr
        have ha := dX_le hS (fun T hT => (hb T hT).1) (by omega) h2
        rw [h3] at ha
        have hq := (sX_le hN hsh (by omega : y < N) hS (fun T hT => (hb T hT).2) h7).1
        rw [← h8] at hq
        refine (key a f q (upd fi (k + 1) (nI f)) (by omega) (by omega) (.inr ⟨f, rfl⟩)).trans ?_
        show (_, _, _) = (_, upd fi (k + 1) (nI (if a ≤ dX kd pl N (SW kd pl N) (k + 1) x then f else x)), _)
        by_cases c2 : a ≤ dX kd pl N (SW kd pl N) (k + 1) x
        · rw [if_pos c2, if_pos c2, if_pos c2]; simp only [c9, c9u, if_pos c2]
        · rw [if_neg c2, if_neg c2, if_neg c2]; simp only [c9, c9u, if_neg c2]
end L5
section L6
variable {kd pl mkd mpl : Nat → Int32} {N : Nat} {an : Int32}
theorem wr36 {f : Nat → Int32} {j : Nat} {v : Int32} (h : j < 36) : fX3_write 36 f (nI j) v = upd f j v := wrN h (by decide)
theorem al_in (hA : rA N an kd pl mkd mpl) {x : Nat} (hx : x < N) (f : Nat → Int32) : ∀ n, n ≤ N →
    (∀ t, t < n → lp (fun k a => sX0_make_20 kd pl N x k a) f n (x * 6 + t) = fX1_alike kd pl N (nI x) (nI t)) ∧ ∀ j, (∀ t, t < n → j ≠ x * 6 + t) → lp (fun k a => sX0_make_20 kd pl N x k a) f n j = f j := by
  have hN := hA.2.1
  intro n
  induction n with
  | zero => intro _; exact ⟨fun t h => absurd h (Nat.not_lt_zero _), fun j _ => rfl⟩
  | succ n ih =>
    intro hn
    obtain ⟨i1, i2⟩ := ih (by omega)
    have hix : (nI x * 6) + nI n = nI (x * 6 + n) := by rw [show (6 : Int32) = nI 6 from rfl, pk_mul, nI_add]
    have e : lp (fun k a => sX0_make_20 kd pl N x k a) f (n + 1) = upd (lp (fun k a => sX0_make_20 kd pl N x k a) f n) (x * 6 + n) (fX1_alike kd pl N (nI x) (nI n)) := by
      rw [lp_succ]
      unfold sX0_make_20
      rw [hix, wr36 (by omega)]
    rw [e]
    refine ⟨fun t ht => ?_, fun j hj => ?_⟩
    · by_cases c : t = n
      · subst c; rw [pk_us]
      · rw [pk_un (by omega)]; exact i1 t (by omega)
    · rw [pk_un (hj n (by omega))]; exact i2 j (fun t ht => hj t (by omega))
theorem al_out (hA : rA N an kd pl mkd mpl) (f : Nat → Int32) : ∀ n, n ≤ N → ∀ x, x < n → ∀ t, t < N → lp (fun k a => sX0_make_10 kd pl N k a) f n (x * 6 + t) = fX1_alike kd pl N (nI x) (nI t) := by
  have hN := hA.2.1
  intro n
  induction n with
  | zero => intro _ x h; omega
  | succ n ih =>
    intro hn x hx t ht
    have e : lp (fun k a => sX0_make_10 kd pl N k a) f (n + 1) = lp (fun k a => sX0_make_20 kd pl N n k a) (lp (fun k a => sX0_make_10 kd pl N k a) f n) N := rfl
    rw [e]
    obtain ⟨i1, i2⟩ := al_in hA (by omega : n < N) (lp (fun k a => sX0_make_10 kd pl N k a) f n) N (Nat.le_refl _)
    by_cases c : x = n
    · subst c; exact i1 t ht
    · rw [i2 _ (fun t' ht' => by omega)]; exact ih (by omega) x (by omega) t ht
theorem cls_k (hA : rA N an kd pl mkd mpl) {al wo fi ni : Nat → Int32} (hal : ∀ x, x < N → ∀ t, t < N → al (x * 6 + t) = fX1_alike kd pl N (nI x) (nI t)) (h0 : wo 0 = 0 ∧ ni 0 = 0) : ∀ k, k < 2 ^ N → ∀ T, T ≤ k →
    (lp (fun k a => sX0_make_61 N al k a.1 a.2.1 a.2.2) (wo, fi, ni) k).1 T = nI (SW mkd mpl N T) ∧ (lp (fun k a => sX0_make_61 N al k a.1 a.2.1 a.2.2) (wo, fi, ni) k).2.2 T = nI (SU mkd mpl N T) ∧ (0 < T → (lp (fun k a => sX0_make_61 N al k a.1 a.2.1 a.2.2) (wo, fi, ni) k).2.1 T = nI (SF mkd mpl N T)) := by
  have hM := rA_M hA
  have hN := hM.1
  have hal2 : ∀ x, x < N → ∀ t, t < N → al (x * 6 + t) = nI (maskF (fun o => decide (fX4_shownBy mkd mpl (nI x) (nI o) = fX4_shownBy mkd mpl (nI x) (nI t))) N) := fun x hx t ht => (hal x hx t ht).trans (alike_eq hA hx ht)
  intro k
  induction k with
  | zero => intro _ T hT; have : T = 0 := by omega
            subst this; exact ⟨h0.1, h0.2, fun h => absurd h (Nat.not_lt_zero _)⟩
  | succ k ih =>
    intro hk T hT
    have h64 : k + 1 < 64 := Nat.lt_of_lt_of_le hk (pow64 hN)
    have ihk := ih (by omega)
    generalize hX : lp (fun k a => sX0_make_61 N al k a.1 a.2.1 a.2.2) (wo, fi, ni) k = X at ihk
    have e : lp (fun k a => sX0_make_61 N al k a.1 a.2.1 a.2.2) (wo, fi, ni) (k + 1) = sX0_make_61 N al k X.1 X.2.1 X.2.2 := by rw [lp_succ, hX]
    have hx := cls_x hM (fi := X.2.1) hk hal2 (fun T hT => ⟨(ihk T hT).1, (ihk T hT).2.1⟩) N (Nat.le_refl _)
    have e2 : sX0_make_61 N al k X.1 X.2.1 X.2.2 = lp (fun y a => sX0_make_93 N al k y a.1 a.2.1 a.2.2) (upd X.1 (k + 1) 1000, X.2.1, upd X.2.2 (k + 1) 1000) N := by
      unfold sX0_make_61 aX0_make_93
      rw [wr64 h64, wr64 h64]
    rw [e, e2, hx]
    have hs := (SX_some hN (rM_sh hM) (k + 1) hk).2.2 (by omega)
    rw [hs.1]
    by_cases c : T = k + 1
    · subst c
      show upd _ _ _ _ = _ ∧ upd _ _ _ _ = _ ∧ (_ → upd _ _ _ _ = _)
      rw [pk_us, pk_us, pk_us]; exact ⟨rfl, rfl, fun _ => rfl⟩
    · show upd _ _ _ _ = _ ∧ upd _ _ _ _ = _ ∧ (_ → upd _ _ _ _ = _)
      rw [pk_un c, pk_un c, pk_un c]; exact ihk T (by omega)
theorem cls_tab (hA : rA N an kd pl mkd mpl) {al wo fi ni : Nat → Int32} (h0 : wo 0 = 0 ∧ ni 0 = 0) {T : Nat} (hT : T < 2 ^ N) :
    (fX0_make al wo fi ni an kd pl N (2 ^ N - 1)).2.1 T = nI (SW mkd mpl N T) ∧ (fX0_make al wo fi ni an kd pl N (2 ^ N - 1)).2.2.2.1 T = nI (SU mkd mpl N T) ∧ (0 < T → (fX0_make al wo fi ni an kd pl N (2 ^ N - 1)).2.2.1 T = nI (SF mkd mpl N T)) := by
  have hp : 0 < 2 ^ N := Nat.pow_pos (by decide)
  exact cls_k hA (al := lp (fun k a => sX0_make_10 kd pl N k a) al N) (fun x hx t ht => al_out hA al N (Nat.le_refl _) x hx t ht) h0 (2 ^ N - 1) (by omega) T (by omega)
/-- the plan, old or made anew -/
theorem planned_tab (hA : rA N an kd pl mkd mpl) {old pa : Int32} {al wo fi ni : Nat → Int32} (hP : rPl N an kd pl old al wo fi ni pa) {T : Nat} (hT : T < 2 ^ N) :
    (fX3_planned old an kd pl al wo fi ni pa N (2 ^ N - 1)).2.1 T = nI (SW mkd mpl N T) ∧ (fX3_planned old an kd pl al wo fi ni pa N (2 ^ N - 1)).2.2.2.1 T = nI (SU mkd mpl N T) ∧ (0 < T → (fX3_planned old an kd pl al wo fi ni pa N (2 ^ N - 1)).2.2.1 T = nI (SF mkd mpl N T)) := by
  unfold fX3_planned
  obtain ⟨h1, h2, h3 | ⟨h3, al0, wo0, fi0, ni0, h4, h5, h6⟩⟩ := hP
  · rw [if_neg (by rw [h3]; decide)]
    exact cls_tab hA ⟨h1, h2⟩ hT
  · rw [if_pos h3]
    have := cls_tab hA (al := al0) (fi := fi0) ⟨h4, h5⟩ hT
    rw [← h6] at this
    exact this
/-- what the call leaves of the plan -/
theorem planned_rel (hA : rA N an kd pl mkd mpl) {old pa : Int32} {al wo fi ni : Nat → Int32} (hP : rPl N an kd pl old al wo fi ni pa) : rPl N an kd pl (fX3_planned old an kd pl al wo fi ni pa N (2 ^ N - 1)).2.2.2.2.2 (fX3_planned old an kd pl al wo fi ni pa N (2 ^ N - 1)).1 (fX3_planned old an kd pl al wo fi ni pa N (2 ^ N - 1)).2.1 (fX3_planned old an kd pl al wo fi ni pa N (2 ^ N - 1)).2.2.1 (fX3_planned old an kd pl al wo fi ni pa N (2 ^ N - 1)).2.2.2.1 (fX3_planned old an kd pl al wo fi ni pa N (2 ^ N - 1)).2.2.2.2.1 := by
  have hp : 0 < 2 ^ N := Nat.pow_pos (by decide)
  obtain ⟨t1, t2, -⟩ := planned_tab hA hP hp
  have z1 := Nat.le_zero.mp (SX_some (rA_M hA).1 (rM_sh (rA_M hA)) 0 hp).1
  have z2 := Nat.le_zero.mp (SX_some (rA_M hA).1 (rM_sh (rA_M hA)) 0 hp).2.1
  rw [z1] at t1
  rw [z2] at t2
  refine ⟨t1, t2, ?_⟩
  unfold fX3_planned
  obtain ⟨h1, h2, h3 | ⟨h3, h4⟩⟩ := hP
  · rw [if_neg (by rw [h3]; decide)]
    exact .inr ⟨rfl, al, wo, fi, ni, h1, h2, rfl⟩
  · rw [if_pos h3]
    exact .inr ⟨h3, h4⟩
theorem isSetOf_eq (ma se : Int32) : fX3_isSetOf ma se = fX4_isSet ma se := rfl
theorem e_worst (hA : rA N an kd pl mkd mpl) {old pa : Int32} {al wo fi ni mwo msu : Nat → Int32} (hP : rPl N an kd pl old al wo fi ni pa) (se : Int32) :
    (fX3_worst old an kd pl al wo fi ni pa N (2 ^ N - 1) se).1 = (fX4_worst an mkd mpl mwo msu N se).1 := by
  unfold fX3_worst fX4_worst
  rw [noS_if]
  by_cases c : an = 0
  · rw [if_pos c, if_pos c]
  · rw [if_neg c, if_neg c, isSetOf_eq, show fX1_answers an = an from rfl]
    by_cases c1 : fX4_isSet an se = 0
    · rw [if_pos c1, if_pos c1]
    · rw [if_neg c1, if_neg c1]
      obtain ⟨S, rfl, hS⟩ := mSet hA.1 hA.2.1 c1
      have h64 := Nat.lt_of_lt_of_le hS (pow64 hA.2.1)
      dsimp only
      unfold fX0_worstOf
      rw [at64 h64, nI_clamp (by omega), (planned_tab hA hP hS).1, (ref_tab (rA_M hA) hS (Nat.le_refl _)).1]
theorem askOf_eq (hM : rM N mkd mpl) {mwo : Nat → Int32} {S : Nat} (hS : S < 2 ^ N) (hw : ∀ T, T ≤ S → mwo T = nI (SW mkd mpl N T)) : fX4_askOf mkd mpl mwo N (nI S) = if S = 0 then -9 else nI (SF mkd mpl N S) := by
  classical
  have hN := hM.1
  have h64 := Nat.lt_of_lt_of_le hS (pow64 hN)
  have hsh := rM_sh hM
  have hw2 : ∀ T, T < S → mwo T = nI (SW mkd mpl N T) ∧ SW mkd mpl N T ≤ 63 := fun T hT => ⟨hw T (by omega), by have := (SX_some hN hsh T (by omega)).1; omega⟩
  unfold fX4_askOf
  rcases Nat.eq_zero_or_pos S with h0 | h0
  · subst h0
    rw [if_pos rfl]
    cases N with
    | zero => rfl
    | succ n =>
      have h1 : lq (fun k a => sX4_askOf_2 mkd mpl mwo (n + 1) (nI 0) k a) () 1 = .inr (-9) := by
        show sX4_askOf_2 mkd mpl mwo (n + 1) (nI 0) 0 () = _
        unfold sX4_askOf_2
        rw [if_pos (show nI 0 = 0 from rfl)]; rfl
      rw [lq_stop h1 (n + 1) (by omega)]; rfl
  · rw [if_neg (by omega)]
    obtain ⟨-, hf, hnf, hd, hmin⟩ := (SX_some hN hsh S hS).2.2 h0
    have hSW := (SX_some hN hsh S hS).1
    have hwb : ∀ x, fX4_worstBy mkd mpl mwo N (nI x) (nI S) = if FullP mkd mpl N x S then -9 else nI (dX mkd mpl N (SW mkd mpl N) S x) := fun x => worstBy_eq hN hS hw2
    have hs0 : ¬ nI S = 0 := nI_ne0 h0 (by omega)
    have h1 : ∀ k, k ≤ SF mkd mpl N S → lq (fun k a => sX4_askOf_2 mkd mpl mwo N (nI S) k a) () k = .inl () := by
      intro k
      induction k with
      | zero => intro _; rfl
      | succ k ih =>
        intro hk
        rw [lq_inl (ih (by omega))]
        unfold sX4_askOf_2
        rw [if_neg hs0, hwb, nI_clamp (by omega), hw S (Nat.le_refl _)]
        rcases hmin k (by omega) with h | h
        · rw [if_pos h, if_neg (m9ne (by omega))]
        · by_cases c : FullP mkd mpl N k S
          · rw [if_pos c, if_neg (m9ne (by omega))]
          · have hdl := dX_le hS (fun T hT => (SX_some hN hsh T (by omega)).1) h0 c
            rw [if_neg c, if_neg (fun e => by
              have := (nI_eq (by omega) (by omega)).mp e
              omega)]
    have h2 : lq (fun k a => sX4_askOf_2 mkd mpl mwo N (nI S) k a) () (SF mkd mpl N S + 1) = .inr (nI (SF mkd mpl N S)) := by
      rw [lq_inl (h1 _ (Nat.le_refl _))]
      unfold sX4_askOf_2
      rw [if_neg hs0, hwb, nI_clamp (by omega), hw S (Nat.le_refl _), if_neg hnf, hd, if_pos rfl]
    rw [lq_stop h2 N (by omega)]; rfl
theorem e_ask (hA : rA N an kd pl mkd mpl) {old pa : Int32} {al wo fi ni mwo msu : Nat → Int32} (hP : rPl N an kd pl old al wo fi ni pa) (se : Int32) :
    (fX3_ask old an kd pl al wo fi ni pa N (2 ^ N - 1) se).1 = (fX4_ask an mkd mpl mwo msu N se).1 := by
  unfold fX3_ask fX4_ask
  rw [noS_if]
  by_cases c : an = 0
  · rw [if_pos c, if_pos c]
  · rw [if_neg c, if_neg c, isSetOf_eq, show fX1_answers an = an from rfl]
    by_cases c1 : fX4_isSet an se = 0
    · rw [if_pos c1, if_pos c1]
    · rw [if_neg c1, if_neg c1]
      obtain ⟨S, rfl, hS⟩ := mSet hA.1 hA.2.1 c1
      have h64 := Nat.lt_of_lt_of_le hS (pow64 hA.2.1)
      dsimp only
      rw [askOf_eq (rA_M hA) hS (fun T hT => by rw [nI_clamp (by omega)]; exact (ref_tab (rA_M hA) hS hT).1)]
      unfold fX0_askOf
      rw [at64 h64]
      rcases Nat.eq_zero_or_pos S with h0 | h0
      · subst h0; rfl
      · rw [if_neg (nI_ne0 h0 (by omega)), if_neg (by omega : ¬ S = 0), (planned_tab hA hP hS).2.2 h0]
end L6
theorem lg0 {Y : Nat} (hY : Y < 2 ^ 31) : lg_cmp (lN Y) 0 = 0 ↔ Y = 0 := by
  rw [lg_cmp_eq]
  exact lN_eq (a := Y) (b := 0) hY (by decide)
theorem least_eq {U D : Nat} (hU : U < 2 ^ 31) (hD : D < 2 ^ 31) (h0 : 0 < D) (wh : Int32) : fX4_inLeastTerms U D wh = if wh = 0 then lN (U / Nat.gcd U D) else lN (D / Nat.gcd U D) := by
  have h : ∀ k, (∃ X Y, lq (fun k a => sX4_inLeastTerms_6 U D wh k a.1 a.2) (U, D) k = .inl (X, Y) ∧ Nat.gcd X Y = Nat.gcd U D ∧ Y + k ≤ D ∧ X < 2 ^ 31) ∨ lq (fun k a => sX4_inLeastTerms_6 U D wh k a.1 a.2) (U, D) k = .inr (if wh = 0 then lN (U / Nat.gcd U D) else lN (D / Nat.gcd U D)) := by
    intro k
    induction k with
    | zero => exact .inl ⟨U, D, rfl, rfl, Nat.le_refl _, hU⟩
    | succ k ih =>
      rcases ih with ⟨X, Y, h1, h2, h3, h4⟩ | h1
      · rw [lq_inl h1]
        unfold sX4_inLeastTerms_6
        dsimp only
        by_cases c : Y = 0
        · rw [if_pos ((lg0 (by omega)).mpr c)]
          subst c
          rw [Nat.gcd_zero_right] at h2
          unfold aX4_inLeastTerms_6
          rw [h2]
          exact .inr rfl
        · rw [if_neg (fun e => c ((lg0 (by omega)).mp e))]
          have hlt : X % Y < Y := Nat.mod_lt _ (by omega)
          refine .inl ⟨Y, X % Y, rfl, ?_, by omega, by omega⟩
          rw [← h2, Nat.gcd_comm Y, ← Nat.gcd_rec, Nat.gcd_comm]
      · rw [lq_inr h1]; exact .inr rfl
  unfold fX4_inLeastTerms
  rcases h (D + 1) with ⟨X, Y, h1, h2, h3, h4⟩ | h1
  · omega
  · rw [h1]; rfl
theorem remN {U d : Nat} (hU : U < 2 ^ 31) (h0 : 0 < d) (hd : d < 2 ^ 31) : (nI U - nI U / nI d * nI d = 0) ↔ d ∣ U := by
  rw [pk_rem hU h0 hd]
  constructor
  · intro h
    have := (nI_eq (a := U % d) (b := 0) (by have := Nat.mod_lt U h0; omega) (by decide)).mp h
    exact Nat.dvd_of_mod_eq_zero this
  · intro h; rw [Nat.mod_eq_zero_of_dvd h]; rfl
theorem shareLoop {U L n : Nat} (hU : U < 2 ^ 31) (hL : L < 2 ^ 31) (h0 : 0 < L) (hn : n < 2 ^ 31) : lqr (lq (fun k a => sX3_shareNumber_13 L (nI U) (nI L) k a) (nI n) (L - 1)) (fun a => aX3_shareNumber_13 a) = lN (n / Nat.gcd U L) := by
  have hg0 : 0 < Nat.gcd U L := Nat.gcd_pos_of_pos_right _ h0
  have hgl : Nat.gcd U L ≤ L := Nat.gcd_le_right _ h0
  have h : ∀ k, k ≤ L - 1 → (lq (fun k a => sX3_shareNumber_13 L (nI U) (nI L) k a) (nI n) k = .inl (nI n) ∧ Nat.gcd U L + k ≤ L) ∨ lq (fun k a => sX3_shareNumber_13 L (nI U) (nI L) k a) (nI n) k = .inr (lN (n / Nat.gcd U L)) := by
    intro k
    induction k with
    | zero => intro _; exact .inl ⟨rfl, by omega⟩
    | succ k ih =>
      intro hk
      rcases ih (by omega) with ⟨h1, h2⟩ | h1
      · rw [lq_inl h1]
        unfold sX3_shareNumber_13
        have hd0 : 0 < L - k := by omega
        have hdl : L - k < 2 ^ 31 := by omega
        by_cases c1 : L - k ∣ U
        · rw [if_pos ((remN hU hd0 hdl).mpr c1)]
          by_cases c2 : L - k ∣ L
          · rw [if_pos ((remN hL hd0 hdl).mpr c2)]
            have h3 : L - k ∣ Nat.gcd U L := Nat.dvd_gcd c1 c2
            have h4 := Nat.le_of_dvd hg0 h3
            have h5 : L - k = Nat.gcd U L := by omega
            rw [pk_div hn hd0 hdl, nI_l (by have := Nat.div_le_self n (L - k); omega), h5]
            exact .inr rfl
          · rw [if_neg (fun e => c2 ((remN hL hd0 hdl).mp e))]
            refine .inl ⟨rfl, ?_⟩
            have : Nat.gcd U L ≠ L - k := fun e => c2 (by rw [← e]; exact Nat.gcd_dvd_right _ _)
            omega
        · rw [if_neg (fun e => c1 ((remN hU hd0 hdl).mp e))]
          refine .inl ⟨rfl, ?_⟩
          have : Nat.gcd U L ≠ L - k := fun e => c1 (by rw [← e]; exact Nat.gcd_dvd_left _ _)
          omega
      · rw [lq_inr h1]; exact .inr rfl
  rcases h (L - 1) (Nat.le_refl _) with ⟨h1, h2⟩ | h1
  · have : Nat.gcd U L = 1 := by omega
    rw [h1, this, Nat.div_one]
    show Int32.toInt64 (nI n) = _
    rw [nI_l hn]
  · rw [h1]; rfl
theorem share_eq {U L : Nat} (hU : U < 2 ^ 31) (hL : L < 2 ^ 31) (h0 : 0 < L) (wh : Int32) : fX3_shareNumber L (nI U) (nI L) wh = fX4_inLeastTerms U L wh := by
  rw [least_eq hU hL h0]
  unfold fX3_shareNumber
  by_cases c : wh = 0
  · rw [if_pos c, if_pos c, shareLoop hU hL h0 hU]
  · rw [if_neg c, if_neg c, shareLoop hU hL h0 hL]
section MO
variable {kd pl mkd mpl : Nat → Int32} {N : Nat} {an : Int32}
theorem e_mean (hA : rA N an kd pl mkd mpl) {old pa : Int32} {al wo fi ni mwo msu : Nat → Int32} (hP : rPl N an kd pl old al wo fi ni pa) (se wh : Int32) {Bc : Nat} (hB : ¬ fX3_isSetOf an se = 0 → fJ6_bitCount_0f7a4 se = nI Bc ∧ Bc < 2 ^ 31) :
    (fX3_mean old an kd pl al wo fi ni pa N (2 ^ N - 1) Bc se wh).1 = (fX4_mean an mkd mpl mwo msu N ((fX4_findWorst mkd mpl mwo msu N se.toNatClampNeg).2 se.toNatClampNeg).toNatClampNeg (fX4_size se.toNatClampNeg).toNatClampNeg se wh).1 := by
  unfold fX3_mean fX4_mean
  rw [noS_if]
  by_cases c : an = 0
  · rw [if_pos c, if_pos c]
  · rw [if_neg c, if_neg c, show fX1_answers an = an from rfl, isSetOf_eq]
    by_cases c1 : fX4_isSet an se = 0
    · rw [if_pos c1, if_pos c1]
      by_cases c2 : se = 0
      · rw [if_pos c2]
      · rw [if_neg c2]
    · rw [if_neg c1, if_neg c1]
      by_cases c2 : se = 0
      · rw [if_pos c2, if_pos c2]
      · rw [if_neg c2, if_neg c2, show fX3_within wh 1 = fX4_within wh 0 1 from eW wh 1]
        by_cases c3 : fX4_within wh 0 1 = 0
        · rw [if_pos c3, if_pos c3]
        · rw [if_neg c3, if_neg c3]
          obtain ⟨hb1, hb2⟩ := hB c1
          obtain ⟨S, rfl, hS⟩ := mSet hA.1 hA.2.1 c1
          have h64 := Nat.lt_of_lt_of_le hS (pow64 hA.2.1)
          have h0 : 0 < S := Nat.pos_of_ne_zero (fun e => c2 (by rw [e]; rfl))
          have hu := (SX_some (rA_M hA).1 (rM_sh (rA_M hA)) S hS).2.1
          dsimp only
          rw [card_bc h64] at hb1
          have hcl := card_le h64
          have e := (nI_eq (by omega) hb2).mp hb1
          subst e
          unfold fX0_nightsOf
          rw [at64 h64, nI_clamp (by omega), (planned_tab hA hP hS).2.1, (ref_tab (rA_M hA) hS (Nat.le_refl _)).2, nI_clamp (by omega), card_bc h64]
          exact share_eq (by omega) (by omega) (card_pos h64 h0) wh
end MO
