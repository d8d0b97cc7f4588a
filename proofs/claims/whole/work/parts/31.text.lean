section TX
variable (gr0 : Int32) (kd0 pl0 wt0 ce : Nat → Int32) (a n : Nat)
abbrev TS := Int32 × Int32 × Int32 × Int32 × (Nat → Int32) × (Nat → Int32) × (Nat → Int32)
/-- the class's reading, p codes read -/
def LT (p : Nat) : TS ⊕ TS := lq (fun k a9 => sX1_readText_16 ce (nI a) k a9.1 a9.2.1 a9.2.2.1 a9.2.2.2.1 a9.2.2.2.2.1 a9.2.2.2.2.2.1 a9.2.2.2.2.2.2) (0, 0, 0, gr0, kd0, pl0, wt0) p
abbrev RT : TS := fX1_readText gr0 kd0 pl0 wt0 ce n (nI a) (nI n)
def DT (p : Nat) (s : TS) : Prop := p ≤ n ∧ LT gr0 kd0 pl0 wt0 ce a p = .inl s
variable {gr0 kd0 pl0 wt0 ce a n}
theorem RT_eq : RT gr0 kd0 pl0 wt0 ce a n = lqr (LT gr0 kd0 pl0 wt0 ce a n) (fun a9 => aX1_readText_16 (nI n) a9.1 a9.2.1 a9.2.2.1 a9.2.2.2.1 a9.2.2.2.2.1 a9.2.2.2.2.2.1 a9.2.2.2.2.2.2) := rfl
theorem DT_step (ha : a + n ≤ 60) {p : Nat} (hp : p < n) {du an pn gr : Int32} {kd pl wt : Nat → Int32} (h : DT gr0 kd0 pl0 wt0 ce a n p (du, an, pn, gr, kd, pl, wt)) {du2 an2 pn2 gr2 : Int32} {kd2 pl2 wt2 : Nat → Int32} (ht : fX1_takeCode an pn gr kd pl wt du (ce (a + p)) = (du2, an2, pn2, gr2, kd2, pl2, wt2)) (hd : ¬ du2 = -1) : DT gr0 kd0 pl0 wt0 ce a n (p + 1) (du2, an2, pn2, gr2, kd2, pl2, wt2) := by
  refine ⟨by omega, ?_⟩
  have h2 := h.2
  unfold LT at h2 ⊢
  rw [lq_inl h2]
  unfold sX1_readText_16 fX2_get
  dsimp only
  rw [nI_add, at60 (by omega), ht]
  dsimp only
  rw [if_neg hd]
theorem DT_fail (ha : a + n ≤ 60) {p : Nat} {du an pn gr : Int32} {kd pl wt : Nat → Int32} (h : DT gr0 kd0 pl0 wt0 ce a n p (du, an, pn, gr, kd, pl, wt)) (h1 : p < n → (fX1_takeCode an pn gr kd pl wt du (ce (a + p))).1 = -1) (h2 : p = n → ¬ du = 5 ∨ pn < 1) : (RT gr0 kd0 pl0 wt0 ce a n).1 = nI p := by
  have hp := h.1
  rw [RT_eq]
  rcases Nat.lt_or_ge p n with c | c
  · have h3 : ∃ r : TS, LT gr0 kd0 pl0 wt0 ce a (p + 1) = .inr r ∧ r.1 = nI p := by
      have h2 := h.2
      unfold LT at h2 ⊢
      rw [lq_inl h2]
      unfold sX1_readText_16 fX2_get
      dsimp only
      rw [nI_add, at60 (by omega), if_pos (h1 c)]
      exact ⟨_, rfl, rfl⟩
    obtain ⟨r, e1, e2⟩ := h3
    have : LT gr0 kd0 pl0 wt0 ce a n = .inr r := lq_stop e1 n (by omega)
    rw [this]; exact e2
  · have e : p = n := by omega
    subst e
    rw [h.2]
    show (aX1_readText_16 (nI p) du an pn gr kd pl wt).1 = _
    unfold aX1_readText_16
    by_cases c1 : du = 5
    · rw [if_pos c1]
      rcases h2 rfl with c2 | c2
      · exact absurd c1 c2
      · rw [if_pos c2]
    · rw [if_neg c1]
theorem DT_end {an pn gr : Int32} {kd pl wt : Nat → Int32} (h : DT gr0 kd0 pl0 wt0 ce a n n (5, an, pn, gr, kd, pl, wt)) (hp : ¬ pn < 1) : RT gr0 kd0 pl0 wt0 ce a n = (-1, an, pn, gr, kd, pl, wt) := by
  rw [RT_eq, h.2]
  show aX1_readText_16 (nI n) 5 an pn gr kd pl wt = _
  unfold aX1_readText_16
  rw [if_pos rfl, if_neg hp]
end TX
theorem sign_eq {ces ce : Nat → Int32} {a n f : Nat} (hf : f + n ≤ 240) (hc : ∀ p, p < n → ces (f + p) = ce (a + p)) {p : Nat} (hp : p ≤ n) (co : Int32) : (p < n ∧ ce (a + p) = co ∧ fX4_isSign (nI (f + p)) ces (nI (f + n)) co = (1, nI (f + (p + 1)))) ∨ ((p = n ∨ (p < n ∧ ¬ ce (a + p) = co)) ∧ fX4_isSign (nI (f + p)) ces (nI (f + n)) co = (0, nI (f + p))) := by
  unfold fX4_isSign
  rcases Nat.lt_or_ge p n with c | c
  · rw [if_neg (fun h => by have := (nI_leI (by omega) (by omega)).mp h; omega), nI_clamp (by omega), hc p c]
    by_cases c1 : ce (a + p) = co
    · rw [if_pos c1, nI_1]; exact .inl ⟨c, c1, rfl⟩
    · rw [if_neg c1]; exact .inr ⟨.inr ⟨c, c1⟩, rfl⟩
  · have e : p = n := by omega
    subst e
    rw [if_pos ((nI_leI (by omega) (by omega)).mpr (Nat.le_refl _))]
    exact .inr ⟨.inl rfl, rfl⟩
/-- a digit, as the class reads it -/
theorem dig_cases (co : Int32) : (fX1_isDigit co = 0 ∧ fX4_within co (48 + 0) 57 = 0 ∧ fX4_within co (48 + 1) 57 = 0) ∨ ∃ b, b ≤ 9 ∧ co = nI (48 + b) ∧ ¬ fX1_isDigit co = 0 ∧ co - 48 = nI b ∧ ¬ fX4_within co (48 + 0) 57 = 0 ∧ (co = 48 ∧ b = 0 ∧ fX4_within co (48 + 1) 57 = 0 ∨ ¬ co = 48 ∧ ¬ fX4_within co (48 + 1) 57 = 0) := by
  rw [show (48 + 0 : Int32) = 48 from rfl, show (48 + 1 : Int32) = 49 from rfl]
  unfold fX1_isDigit fX4_within
  by_cases c : co < 48
  · have c2 : co < 49 := Int32.lt_trans c (by decide)
    rw [if_pos c, if_pos c2]; exact .inl ⟨rfl, rfl, rfl⟩
  · by_cases c1 : (57 : Int32) < co
    · rw [if_neg c, if_pos c1]
      exact .inl ⟨rfl, rfl, by split <;> rfl⟩
    · rw [if_neg c, if_neg c1]
      have hn : ¬ co < 0 := fun h => c (Int32.lt_trans h (by decide))
      obtain ⟨q, hq, rfl⟩ := nI_of hn
      have h1 : ¬ q < 48 := fun h => c ((nI_ltI (b := 48) hq (by decide)).mpr h)
      have h2 : ¬ 57 < q := fun h => c1 ((nI_ltI (a := 57) (by decide) hq).mpr h)
      refine .inr ⟨q - 48, by omega, by congr 1; omega, n10, ?_, n10, ?_⟩
      · rw [show (48 : Int32) = nI 48 from rfl, pk_sub (by omega)]
      · by_cases e : q = 48
        · subst e
          exact .inl ⟨rfl, rfl, by decide⟩
        · refine .inr ⟨fun h => e ((nI_eq (b := 48) hq (by decide)).mp h), ?_⟩
          rw [if_neg (fun h => by have := (nI_ltI (b := 49) hq (by decide)).mp h; omega)]
          exact n10
theorem digit_eq {ces ce : Nat → Int32} {a n f : Nat} (hf : f + n ≤ 240) (hc : ∀ p, p < n → ces (f + p) = ce (a + p)) {p : Nat} (hp : p ≤ n) (mi : Int32) : (p < n ∧ ¬ fX4_within (ce (a + p)) (48 + mi) 57 = 0 ∧ fX4_digit (nI (f + p)) ces (nI (f + n)) mi = (ce (a + p) - 48, nI (f + (p + 1)))) ∨ ((p = n ∨ (p < n ∧ fX4_within (ce (a + p)) (48 + mi) 57 = 0)) ∧ fX4_digit (nI (f + p)) ces (nI (f + n)) mi = (-9, nI (f + p))) := by
  unfold fX4_digit
  rcases Nat.lt_or_ge p n with c | c
  · rw [if_neg (fun h => by have := (nI_leI (by omega) (by omega)).mp h; omega), nI_clamp (by omega), hc p c]
    by_cases c1 : fX4_within (ce (a + p)) (48 + mi) 57 = 0
    · rw [if_pos c1]; exact .inr ⟨.inr ⟨c, c1⟩, rfl⟩
    · rw [if_neg c1, mBack, nI_clamp (by omega), hc p c, nI_1]; exact .inl ⟨c, c1, rfl⟩
  · have e : p = n := by omega
    subst e
    rw [if_pos ((nI_leI (by omega) (by omega)).mpr (Nat.le_refl _))]
    exact .inr ⟨.inl rfl, rfl⟩
section TK
variable (an pn gr co : Int32) (kd pl wt : Nat → Int32)
theorem tk0 : fX1_takeCode an pn gr kd pl wt 0 co = if co = 97 then (1, an, pn, gr, kd, pl, wt) else (-1, an, pn, gr, kd, pl, wt) := by
  unfold fX1_takeCode; rw [if_pos (show (0 : Int32) = 0 from rfl)]
theorem tk1 : fX1_takeCode an pn gr kd pl wt 1 co = (if co = 44 then (if (6 : Int32) ≤ an then ((-1), an, pn, gr, kd, pl, wt) else (2, an, pn, gr, kd, pl, wt)) else (if co = 59 then (if an < 2 then ((-1), an, pn, gr, kd, pl, wt) else (4, an, pn, gr, kd, pl, wt)) else ((-1), an, pn, gr, kd, pl, wt))) := by
  unfold fX1_takeCode; rw [if_neg (show ¬ (1 : Int32) = 0 by decide), if_pos (show (1 : Int32) = 1 from rfl)]
theorem tk2 : fX1_takeCode an pn gr kd pl wt 2 co = ((fX1_takeKind an kd (fX1_kindByLetter co)).1, an, pn, gr, (fX1_takeKind an kd (fX1_kindByLetter co)).2, pl, wt) := by
  unfold fX1_takeCode; rw [if_neg (show ¬ (2 : Int32) = 0 by decide), if_neg (show ¬ (2 : Int32) = 1 by decide), if_pos (show (2 : Int32) = 2 from rfl)]
theorem tk3 : fX1_takeCode an pn gr kd pl wt 3 co = ((fX1_takePlace an pl co).1, (fX1_takePlace an pl co).2.1, pn, gr, kd, (fX1_takePlace an pl co).2.2, wt) := by
  unfold fX1_takeCode; rw [if_neg (show ¬ (3 : Int32) = 0 by decide), if_neg (show ¬ (3 : Int32) = 1 by decide), if_neg (show ¬ (3 : Int32) = 2 by decide), if_pos (show (3 : Int32) = 3 from rfl)]
theorem tk4 : fX1_takeCode an pn gr kd pl wt 4 co = ((fX1_takeGrowth gr co).1, an, pn, (fX1_takeGrowth gr co).2, kd, pl, wt) := by
  unfold fX1_takeCode; rw [if_neg (show ¬ (4 : Int32) = 0 by decide), if_neg (show ¬ (4 : Int32) = 1 by decide), if_neg (show ¬ (4 : Int32) = 2 by decide), if_neg (show ¬ (4 : Int32) = 3 by decide), if_pos (show (4 : Int32) = 4 from rfl)]
theorem tk5 : fX1_takeCode an pn gr kd pl wt 5 co = (if co = 47 then (if (5 : Int32) ≤ pn then ((-1), an, pn, gr, kd, pl, wt) else (6, an, pn, gr, kd, pl, wt)) else ((-1), an, pn, gr, kd, pl, wt)) := by
  unfold fX1_takeCode; rw [if_neg (show ¬ (5 : Int32) = 0 by decide), if_neg (show ¬ (5 : Int32) = 1 by decide), if_neg (show ¬ (5 : Int32) = 2 by decide), if_neg (show ¬ (5 : Int32) = 3 by decide), if_neg (show ¬ (5 : Int32) = 4 by decide), if_pos (show (5 : Int32) = 5 from rfl)]
theorem tk6 : fX1_takeCode an pn gr kd pl wt 6 co = ((fX1_takeWeight pn wt co).1, an, (fX1_takeWeight pn wt co).2.1, gr, kd, pl, (fX1_takeWeight pn wt co).2.2) := by
  unfold fX1_takeCode; rw [if_neg (show ¬ (6 : Int32) = 0 by decide), if_neg (show ¬ (6 : Int32) = 1 by decide), if_neg (show ¬ (6 : Int32) = 2 by decide), if_neg (show ¬ (6 : Int32) = 3 by decide), if_neg (show ¬ (6 : Int32) = 4 by decide), if_neg (show ¬ (6 : Int32) = 5 by decide), if_pos (show (6 : Int32) = 6 from rfl)]
end TK
def QA (m : Nat) (kd pl xk xp : Nat → Int32) : Prop := ∀ t, t < m → xk t = kd t ∧ xp t = pl t ∧ (∃ a, a ≤ 2 ∧ kd t = nI a) ∧ ∃ b, b ≤ 9 ∧ pl t = nI b
def QW (q : Nat) (wt xw : Nat → Int32) : Prop := ∀ t, t < q → xw t = wt t
section RA
variable {gr0 : Int32} {kd0 pl0 wt0 ce ces : Nat → Int32} {a n f : Nat}
def BadT (gr0 : Int32) (kd0 pl0 wt0 ce : Nat → Int32) (a n f : Nat) (ax : Int32) : Prop := ∃ p, p ≤ n ∧ ax = nI (f + p) ∧ (RT gr0 kd0 pl0 wt0 ce a n).1 = nI p
def OkA (gr0 : Int32) (kd0 pl0 wt0 ce : Nat → Int32) (a n f p m : Nat) (pn gr : Int32) (wt : Nat → Int32) (R : Int32 × Int32 × Int32 × (Nat → Int32) × (Nat → Int32)) : Prop := (R.1 = 0 ∧ BadT gr0 kd0 pl0 wt0 ce a n f R.2.1) ∨ (R.1 = 1 ∧ R.2.1 = nI (f + (p + 2)) ∧ R.2.2.1 = nI (m + 1) ∧ ∃ kd' pl', DT gr0 kd0 pl0 wt0 ce a n (p + 2) (1, nI (m + 1), pn, gr, kd', pl', wt) ∧ QA (m + 1) kd' pl' R.2.2.2.1 R.2.2.2.2)
theorem rdA1 (ha : a + n ≤ 60) (hf : f + n ≤ 240) (hc : ∀ p, p < n → ces (f + p) = ce (a + p)) {p m k : Nat} {pn gr : Int32} {kd pl wt xk xp : Nat → Int32} (hm : m < 6) (hk : k ≤ 2) (hp : p < n) (hD : DT gr0 kd0 pl0 wt0 ce a n p (2, nI m, pn, gr, kd, pl, wt)) (hQ : QA m kd pl xk xp) (hl : fX1_kindByLetter (ce (a + p)) = nI k) :
    OkA gr0 kd0 pl0 wt0 ce a n f p m pn gr wt (if ((upd xp (nI m).toNatClampNeg ((fX4_digit (nI (f + p) + 1) ces (nI (f + n)) 0).1)) ((nI m + 1) - 1).toNatClampNeg) = (-9) then (0, (fX4_digit (nI (f + p) + 1) ces (nI (f + n)) 0).2, (nI m + 1), (upd xk (nI m).toNatClampNeg (nI k)), (upd xp (nI m).toNatClampNeg ((fX4_digit (nI (f + p) + 1) ces (nI (f + n)) 0).1))) else (1, (fX4_digit (nI (f + p) + 1) ces (nI (f + n)) 0).2, (nI m + 1), (upd xk (nI m).toNatClampNeg (nI k)), (upd xp (nI m).toNatClampNeg ((fX4_digit (nI (f + p) + 1) ces (nI (f + n)) 0).1)))) := by
  have h3 : DT gr0 kd0 pl0 wt0 ce a n (p + 1) (3, nI m, pn, gr, upd kd m (nI k), pl, wt) := by
    refine DT_step ha hp hD ?_ (by decide)
    rw [tk2, hl]
    unfold fX1_takeKind
    rw [if_neg (m9n (by omega)), wr6 (by omega)]
  rw [mBack, nI_clamp (by omega), pk_us, nI_1, nI_1]
  rcases digit_eq hf hc (by omega : p + 1 ≤ n) 0 with ⟨g1, g2, g3⟩ | ⟨g1, g3⟩
  · rw [show nI (f + p + 1) = nI (f + (p + 1)) from rfl, g3]
    dsimp only
    rcases dig_cases (ce (a + (p + 1))) with ⟨-, d2, -⟩ | ⟨b, hb, d1, d2, d3, -, -⟩
    · exact absurd d2 g2
    · rw [d3, if_neg (m9n (by omega))]
      refine .inr ⟨rfl, rfl, rfl, upd kd m (nI k), upd pl m (nI b), ?_, ?_⟩
      · refine DT_step ha g1 h3 ?_ (by decide)
        rw [tk3]
        unfold fX1_takePlace
        rw [if_neg d2, d3, wr6 (by omega), nI_1]
      · intro t ht
        dsimp only
        by_cases e : t = m
        · subst e; rw [pk_us, pk_us, pk_us, pk_us]; exact ⟨rfl, rfl, ⟨k, hk, rfl⟩, b, hb, rfl⟩
        · rw [pk_un e, pk_un e, pk_un e, pk_un e]; exact hQ t (by omega)
  · rw [show nI (f + p + 1) = nI (f + (p + 1)) from rfl, g3]
    dsimp only
    rw [if_pos rfl]
    refine .inl ⟨rfl, p + 1, by omega, rfl, DT_fail ha h3 (fun hlt => ?_) (fun _ => .inl (by decide))⟩
    rcases g1 with g1 | ⟨-, g1⟩
    · omega
    · rw [tk3]
      unfold fX1_takePlace
      rcases dig_cases (ce (a + (p + 1))) with ⟨d1, -, -⟩ | ⟨b, hb, -, -, -, d4, -⟩
      · rw [if_pos d1]
      · exact absurd g1 d4
theorem rdA (ha : a + n ≤ 60) (hf : f + n ≤ 240) (hc : ∀ p, p < n → ces (f + p) = ce (a + p)) {p m : Nat} {pn gr : Int32} {kd pl wt xk xp : Nat → Int32} (hm : m < 6) (hD : DT gr0 kd0 pl0 wt0 ce a n p (2, nI m, pn, gr, kd, pl, wt)) (hQ : QA m kd pl xk xp) :
    OkA gr0 kd0 pl0 wt0 ce a n f p m pn gr wt (fX4_readAnswer (nI (f + p)) (nI m) ces xk xp (nI (f + n))) := by
  have hpn := hD.1
  unfold fX4_readAnswer
  rcases Nat.lt_or_ge p n with c | c
  · rw [if_neg (fun h => by have := (nI_leI (by omega) (by omega)).mp h; omega), show (nI (f + p)).toNatClampNeg = f + p from nI_clamp (by omega), hc p c]
    by_cases c1 : ce (a + p) = 112
    · rw [if_pos c1]
      exact rdA1 ha hf hc hm (by decide : 0 ≤ 2) c hD hQ (by rw [c1]; rfl)
    · rw [if_neg c1]
      by_cases c2 : ce (a + p) = 115
      · rw [if_pos c2]
        exact rdA1 ha hf hc hm (by decide : 1 ≤ 2) c hD hQ (by rw [c2]; rfl)
      · rw [if_neg c2]
        by_cases c3 : ce (a + p) = 118
        · rw [if_pos c3]
          exact rdA1 ha hf hc hm (by decide : 2 ≤ 2) c hD hQ (by rw [c3]; rfl)
        · rw [if_neg c3]
          refine .inl ⟨rfl, p, hpn, rfl, DT_fail ha hD (fun _ => ?_) (fun _ => .inl (by decide))⟩
          rw [tk2]
          unfold fX1_kindByLetter
          rw [if_neg c1, if_neg c2, if_neg c3]
          rfl
  · have e : p = n := by omega
    subst e
    rw [if_pos ((nI_leI (by omega) (by omega)).mpr (Nat.le_refl _))]
    exact .inl ⟨rfl, p, hpn, rfl, DT_fail ha hD (fun h => absurd h (Nat.lt_irrefl _)) (fun _ => .inl (by decide))⟩
/-- the pillars -/
def OkP (gr0 : Int32) (kd0 pl0 wt0 ce : Nat → Int32) (a n f : Nat) (an gr : Int32) (kd pl : Nat → Int32) (R : Int32 × Int32 × Int32 × (Nat → Int32)) : Prop := (R.1 = 0 ∧ BadT gr0 kd0 pl0 wt0 ce a n f R.2.1) ∨ (R.1 = 1 ∧ ∃ q wt, q ≤ 5 ∧ R.2.2.1 = nI q ∧ RT gr0 kd0 pl0 wt0 ce a n = (-1, an, nI q, gr, kd, pl, wt) ∧ QW q wt R.2.2.2)
theorem rdP (ha : a + n ≤ 60) (hf : f + n ≤ 240) (hc : ∀ p, p < n → ces (f + p) = ce (a + p)) {p : Nat} {an gr : Int32} {kd pl wt xw : Nat → Int32} (hD : DT gr0 kd0 pl0 wt0 ce a n p (5, an, 0, gr, kd, pl, wt)) :
    OkP gr0 kd0 pl0 wt0 ce a n f an gr kd pl (fX4_readThePillars (nI (f + p)) 0 ces xw (nI (f + n))) := by
  have h : ∀ k, k ≤ 5 → (∃ p' wt' xw', DT gr0 kd0 pl0 wt0 ce a n p' (5, an, nI k, gr, kd, pl, wt') ∧ QW k wt' xw' ∧ lq (fun k a => sX4_readThePillars_0 ces (nI (f + n)) k a.1 a.2.1 a.2.2) (nI (f + p), 0, xw) k = .inl (nI (f + p'), nI k, xw')) ∨ ∃ R, lq (fun k a => sX4_readThePillars_0 ces (nI (f + n)) k a.1 a.2.1 a.2.2) (nI (f + p), 0, xw) k = .inr R ∧ OkP gr0 kd0 pl0 wt0 ce a n f an gr kd pl R := by
    intro k
    induction k with
    | zero => intro _; exact .inl ⟨p, wt, xw, hD, fun t ht => absurd ht (Nat.not_lt_zero _), rfl⟩
    | succ k ih =>
      intro hk
      rcases ih (by omega) with ⟨p', wt', xw', h1, h2, h3⟩ | ⟨R, h3, h4⟩
      · have hp' := h1.1
        rw [lq_inl h3]
        dsimp only
        -- the common way: a sign, a digit
        have key : (if (fX4_isSign (nI (f + p')) ces (nI (f + n)) 47).1 = 0 then (.inr (0, (fX4_isSign (nI (f + p')) ces (nI (f + n)) 47).2, nI k, xw')) else (if ((upd xw' (nI k).toNatClampNeg ((fX4_digit (fX4_isSign (nI (f + p')) ces (nI (f + n)) 47).2 ces (nI (f + n)) 1).1)) ((nI k + 1) - 1).toNatClampNeg) = (-9) then (.inr (0, (fX4_digit (fX4_isSign (nI (f + p')) ces (nI (f + n)) 47).2 ces (nI (f + n)) 1).2, (nI k + 1), (upd xw' (nI k).toNatClampNeg ((fX4_digit (fX4_isSign (nI (f + p')) ces (nI (f + n)) 47).2 ces (nI (f + n)) 1).1)))) else (.inl ((fX4_digit (fX4_isSign (nI (f + p')) ces (nI (f + n)) 47).2 ces (nI (f + n)) 1).2, (nI k + 1), (upd xw' (nI k).toNatClampNeg ((fX4_digit (fX4_isSign (nI (f + p')) ces (nI (f + n)) 47).2 ces (nI (f + n)) 1).1)))) : (Int32 × Int32 × (Nat → Int32)) ⊕ (Int32 × Int32 × Int32 × (Nat → Int32)))) = sX4_readThePillars_0 ces (nI (f + n)) k (nI (f + p')) (nI k) xw' → (k ≠ 0 → p' < n) → ((∃ p2 wt2 xw2, DT gr0 kd0 pl0 wt0 ce a n p2 (5, an, nI (k + 1), gr, kd, pl, wt2) ∧ QW (k + 1) wt2 xw2 ∧ sX4_readThePillars_0 ces (nI (f + n)) k (nI (f + p')) (nI k) xw' = .inl (nI (f + p2), nI (k + 1), xw2)) ∨ ∃ R, sX4_readThePillars_0 ces (nI (f + n)) k (nI (f + p')) (nI k) xw' = .inr R ∧ OkP gr0 kd0 pl0 wt0 ce a n f an gr kd pl R) := by
          intro he hk0
          rw [← he]
          rcases sign_eq hf hc hp' 47 with ⟨g1, g2, g3⟩ | ⟨g1, g3⟩
          · rw [g3]
            dsimp only
            rw [if_neg n10, mBack, nI_clamp (by omega), pk_us]
            have h6 : DT gr0 kd0 pl0 wt0 ce a n (p' + 1) (6, an, nI k, gr, kd, pl, wt') := by
              refine DT_step ha g1 h1 ?_ (by decide)
              rw [tk5, if_pos g2, if_neg (fun h => by have := (nI_leI (a := 5) (by decide) (by omega)).mp h; omega)]
            rcases digit_eq hf hc (by omega : p' + 1 ≤ n) 1 with ⟨d1, d2, d3⟩ | ⟨d1, d3⟩
            · rw [d3]
              dsimp only
              rcases dig_cases (ce (a + (p' + 1))) with ⟨-, -, e3⟩ | ⟨b, hb, e1, e2, e3, -, e4⟩
              · exact absurd e3 d2
              · rw [e3, if_neg (m9n (by omega)), nI_1]
                have e5 : ¬ ce (a + (p' + 1)) = 48 := by
                  rcases e4 with ⟨-, -, e4⟩ | ⟨e4, -⟩
                  · exact absurd e4 d2
                  · exact e4
                refine .inl ⟨p' + 2, upd wt' k (nI b), upd xw' k (nI b), ?_, ?_, rfl⟩
                · refine DT_step ha d1 h6 ?_ (by decide)
                  rw [tk6]
                  unfold fX1_takeWeight
                  rw [if_neg e2, if_neg e5, e3, wrN (by omega) (by decide), nI_1]
                · intro t ht
                  by_cases e : t = k
                  · subst e; rw [pk_us, pk_us]
                  · rw [pk_un e, pk_un e]; exact h2 t (by omega)
            · rw [d3]
              dsimp only
              rw [if_pos rfl]
              refine .inr ⟨_, rfl, .inl ⟨rfl, p' + 1, by omega, rfl, DT_fail ha h6 (fun hlt => ?_) (fun _ => .inl (by decide))⟩⟩
              rcases d1 with d1 | ⟨-, d1⟩
              · omega
              · rw [tk6]
                unfold fX1_takeWeight
                rcases dig_cases (ce (a + (p' + 1))) with ⟨e1, -, -⟩ | ⟨b, hb, -, e2, -, -, ⟨e3, -, -⟩ | ⟨-, e4⟩⟩
                · rw [if_pos e1]
                · rw [if_neg e2, if_pos e3]
                · exact absurd d1 e4
          · rw [g3]
            dsimp only
            rw [if_pos z00]
            refine .inr ⟨_, rfl, .inl ⟨rfl, p', hp', rfl, DT_fail ha h1 (fun hlt => ?_) (fun e => ?_)⟩⟩
            · rcases g1 with g1 | ⟨-, g1⟩
              · omega
              · rw [tk5, if_neg g1]
            · have : k = 0 := Nat.eq_zero_of_not_pos (fun h => by have := hk0 (by omega); omega)
              subst this
              exact .inr (by decide)
        by_cases c0 : k = 0
        · subst c0
          exact key (by unfold sX4_readThePillars_0; rw [if_pos (show nI 0 = 0 from rfl)]) (fun h => absurd rfl h)
        · have hk0 : ¬ nI k = 0 := nI_ne0 (by omega) (by omega)
          rcases Nat.lt_or_ge p' n with c1 | c1
          · have hlt : ¬ nI (f + n) ≤ nI (f + p') := fun h => by have := (nI_leI (by omega) (by omega)).mp h; omega
            exact key (by unfold sX4_readThePillars_0; rw [if_neg hk0, if_neg hlt]) (fun _ => c1)
          · have e : p' = n := by omega
            subst e
            unfold sX4_readThePillars_0
            rw [if_neg hk0, if_pos ((nI_leI (by omega) (by omega)).mpr (Nat.le_refl _))]
            refine .inr ⟨_, rfl, ?_⟩
            unfold aX4_readThePillars_0
            rw [if_pos rfl]
            exact .inr ⟨rfl, k, wt', by omega, rfl, DT_end h1 (fun h => by have := (nI_ltI (b := 1) (by omega) (by decide)).mp h; omega), h2⟩
      · rw [lq_inr h3]; exact .inr ⟨R, rfl, h4⟩
  unfold fX4_readThePillars
  rcases h 5 (Nat.le_refl _) with ⟨p', wt', xw', h1, h2, h3⟩ | ⟨R, h3, h4⟩
  · rw [h3]
    show OkP gr0 kd0 pl0 wt0 ce a n f an gr kd pl (aX4_readThePillars_0 (nI (f + n)) (nI (f + p')) (nI 5) xw')
    have hp' := h1.1
    unfold aX4_readThePillars_0
    by_cases c : p' = n
    · subst c
      rw [if_pos rfl]
      exact .inr ⟨rfl, 5, wt', Nat.le_refl _, rfl, DT_end h1 (by decide), h2⟩
    · rw [if_neg (fun h => c (by have := (nI_eq (by omega) (by omega)).mp h; omega))]
      refine .inl ⟨rfl, p', hp', rfl, DT_fail ha h1 (fun hlt => ?_) (fun e => absurd e c)⟩
      rw [tk5]
      split
      · rw [if_pos (by decide)]
      · rfl
  · rw [h3]; exact h4
end RA
section RS
variable {gr0 : Int32} {kd0 pl0 wt0 ce ces : Nat → Int32} {a n f : Nat}
abbrev RR := Int32 × Int32 × Int32 × Int32 × Int32 × (Nat → Int32) × (Nat → Int32) × (Nat → Int32)
def OkS (gr0 : Int32) (kd0 pl0 wt0 ce : Nat → Int32) (a n f : Nat) (R : RR) : Prop := (R.1 = 0 ∧ BadT gr0 kd0 pl0 wt0 ce a n f R.2.1) ∨ (R.1 = 1 ∧ ∃ m q g kd pl wt, RT gr0 kd0 pl0 wt0 ce a n = (-1, nI m, nI q, g, kd, pl, wt) ∧ 2 ≤ m ∧ m ≤ 6 ∧ q ≤ 5 ∧ R.2.2.1 = nI m ∧ R.2.2.2.1 = nI q ∧ R.2.2.2.2.1 = g ∧ QA m kd pl R.2.2.2.2.2.1 R.2.2.2.2.2.2.1 ∧ QW q wt R.2.2.2.2.2.2.2)
theorem rdTail (ha : a + n ≤ 60) (hf : f + n ≤ 240) (hc : ∀ p, p < n → ces (f + p) = ce (a + p)) {p m : Nat} {rg : Int32} {kd pl wt xk xp xw : Nat → Int32} (h2 : 2 ≤ m) (h6 : m ≤ 6) (hD : DT gr0 kd0 pl0 wt0 ce a n p (1, nI m, 0, gr0, kd, pl, wt)) (hQ : QA m kd pl xk xp) (hm : p < n → ce (a + p) = 44 → m = 6) :
    OkS gr0 kd0 pl0 wt0 ce a n f (aX4_readSecret_50 rg ces xw (nI (f + n)) (nI (f + p)) (nI m) xk xp) := by
  have hp := hD.1
  unfold aX4_readSecret_50
  rcases sign_eq hf hc hp 59 with ⟨g1, g2, g3⟩ | ⟨g1, g3⟩
  · rw [g3]
    dsimp only
    rw [if_neg n10]
    have h4 : DT gr0 kd0 pl0 wt0 ce a n (p + 1) (4, nI m, 0, gr0, kd, pl, wt) := by
      refine DT_step ha g1 hD ?_ (by decide)
      rw [tk1, g2, if_neg (by decide), if_pos rfl, if_neg (fun h => by have := (nI_ltI (b := 2) (by omega) (by decide)).mp h; omega)]
    rcases digit_eq hf hc (by omega : p + 1 ≤ n) 0 with ⟨d1, d2, d3⟩ | ⟨d1, d3⟩
    · rw [d3]
      dsimp only
      rcases dig_cases (ce (a + (p + 1))) with ⟨-, e2, -⟩ | ⟨b, hb, e1, e2, e3, -, -⟩
      · exact absurd e2 d2
      · rw [e3, if_neg (m9n (by omega))]
        have h5 : DT gr0 kd0 pl0 wt0 ce a n (p + 1 + 1) (5, nI m, 0, nI b, kd, pl, wt) := by
          refine DT_step ha d1 h4 ?_ (by decide)
          rw [tk4]
          unfold fX1_takeGrowth
          rw [if_neg e2, e3]
        rcases rdP ha hf hc (xw := xw) h5 with ⟨r1, r2⟩ | ⟨r1, q, wt', r2, r3, r4, r5⟩
        · rw [if_pos r1]; exact .inl ⟨rfl, r2⟩
        · rw [if_neg (by rw [r1]; decide)]
          exact .inr ⟨rfl, m, q, nI b, kd, pl, wt', r4, h2, h6, r2, rfl, r3, rfl, hQ, r5⟩
    · rw [d3]
      dsimp only
      rw [if_pos rfl]
      refine .inl ⟨rfl, p + 1, by omega, rfl, DT_fail ha h4 (fun hlt => ?_) (fun _ => .inl (by decide))⟩
      rcases d1 with d1 | ⟨-, d1⟩
      · omega
      · rw [tk4]
        unfold fX1_takeGrowth
        rcases dig_cases (ce (a + (p + 1))) with ⟨e1, -, -⟩ | ⟨b, hb, -, -, -, e4, -⟩
        · rw [if_pos e1]
        · exact absurd d1 e4
  · rw [g3]
    dsimp only
    rw [if_pos z00]
    refine .inl ⟨rfl, p, hp, rfl, DT_fail ha hD (fun hlt => ?_) (fun _ => .inl (by decide))⟩
    rcases g1 with g1 | ⟨-, g1⟩
    · omega
    · rw [tk1]
      by_cases c : ce (a + p) = 44
      · rw [if_pos c, hm hlt c, if_pos (by decide)]
      · rw [if_neg c, if_neg g1]
theorem DT0 : DT gr0 kd0 pl0 wt0 ce a n 0 (0, 0, 0, gr0, kd0, pl0, wt0) := ⟨Nat.zero_le _, rfl⟩
theorem rdS (ha : a + n ≤ 60) (hf : f + n ≤ 240) (hc : ∀ p, p < n → ces (f + p) = ce (a + p)) (rg : Int32) (xk xp xw : Nat → Int32) : OkS gr0 kd0 pl0 wt0 ce a n f (fX4_readSecret (nI f) rg ces xk xp xw (nI (f + n))) := by
  unfold fX4_readSecret
  have hD := DT0 (gr0 := gr0) (kd0 := kd0) (pl0 := pl0) (wt0 := wt0) (ce := ce) (a := a) (n := n)
  rcases sign_eq hf hc (Nat.zero_le n) 97 with ⟨g1, g2, g3⟩ | ⟨g1, g3⟩
  · rw [show nI f = nI (f + 0) from rfl, g3]
    dsimp only
    rw [if_neg n10]
    have h1 : DT gr0 kd0 pl0 wt0 ce a n 1 (1, nI 0, 0, gr0, kd0, pl0, wt0) := by
      refine DT_step ha g1 hD ?_ (by decide)
      rw [tk0, g2, if_pos rfl]; rfl
    have hl : ∀ k, k ≤ 2 → (∃ p kd pl xk' xp', DT gr0 kd0 pl0 wt0 ce a n p (1, nI k, 0, gr0, kd, pl, wt0) ∧ QA k kd pl xk' xp' ∧ lq (fun k a => sX4_readSecret_22 rg ces xw (nI (f + n)) k a.1 a.2.1 a.2.2.1 a.2.2.2) (nI (f + (0 + 1)), 0, xk, xp) k = .inl (nI (f + p), nI k, xk', xp')) ∨ ∃ R, lq (fun k a => sX4_readSecret_22 rg ces xw (nI (f + n)) k a.1 a.2.1 a.2.2.1 a.2.2.2) (nI (f + (0 + 1)), 0, xk, xp) k = .inr R ∧ OkS gr0 kd0 pl0 wt0 ce a n f R := by
      intro k
      induction k with
      | zero => intro _; exact .inl ⟨1, kd0, pl0, xk, xp, h1, fun t ht => absurd ht (Nat.not_lt_zero _), rfl⟩
      | succ k ih =>
        intro hk
        rcases ih (by omega) with ⟨p, kd, pl, xk', xp', i1, i2, i3⟩ | ⟨R, i3, i4⟩
        · have hp := i1.1
          rw [lq_inl i3]
          dsimp only
          unfold sX4_readSecret_22
          rcases sign_eq hf hc hp 44 with ⟨j1, j2, j3⟩ | ⟨j1, j3⟩
          · rw [j3]
            dsimp only
            rw [if_neg n10]
            have h2 : DT gr0 kd0 pl0 wt0 ce a n (p + 1) (2, nI k, 0, gr0, kd, pl, wt0) := by
              refine DT_step ha j1 i1 ?_ (by decide)
              rw [tk1, j2, if_pos rfl, if_neg (fun h => by have := (nI_leI (a := 6) (by decide) (by omega)).mp h; omega)]
            rcases rdA ha hf hc (by omega : k < 6) h2 i2 with ⟨r1, r2⟩ | ⟨r1, r3, r4, kd', pl', r5, r6⟩
            · rw [if_pos r1]; exact .inr ⟨_, rfl, .inl ⟨rfl, r2⟩⟩
            · rw [if_neg (by rw [r1]; decide), r3, r4]
              exact .inl ⟨_, kd', pl', _, _, r5, r6, rfl⟩
          · rw [j3]
            dsimp only
            rw [if_pos z00]
            refine .inr ⟨_, rfl, .inl ⟨rfl, p, hp, rfl, DT_fail ha i1 (fun hlt => ?_) (fun _ => .inl (by decide))⟩⟩
            rcases j1 with j1 | ⟨-, j1⟩
            · omega
            · rw [tk1, if_neg j1]
              split
              · rw [if_pos (show nI k < 2 from (nI_ltI (b := 2) (by omega) (by decide)).mpr (by omega))]
              · rfl
        · rw [lq_inr i3]; exact .inr ⟨R, rfl, i4⟩
    rcases hl 2 (Nat.le_refl _) with ⟨p, kd, pl, xk', xp', i1, i2, i3⟩ | ⟨R, i3, i4⟩
    · have e0 : lq (fun k a => sX4_readSecret_22 rg ces xw (nI (f + n)) k a.1 a.2.1 a.2.2.1 a.2.2.2) (nI (f + (0 + 1)), 0, xk, xp) 2 = .inl (nI (f + p), nI 2, xk', xp') := i3
      rw [e0]
      show OkS gr0 kd0 pl0 wt0 ce a n f (aX4_readSecret_22 rg ces xw (nI (f + n)) (nI (f + p)) (nI 2) xk' xp')
      unfold aX4_readSecret_22
      have hl2 : ∀ k, k ≤ 4 → (∃ p3 kd3 pl3 xk3 xp3, DT gr0 kd0 pl0 wt0 ce a n p3 (1, nI (2 + k), 0, gr0, kd3, pl3, wt0) ∧ QA (2 + k) kd3 pl3 xk3 xp3 ∧ lq (fun k a => sX4_readSecret_50 rg ces xw (nI (f + n)) k a.1 a.2.1 a.2.2.1 a.2.2.2) (nI (f + p), nI 2, xk', xp') k = .inl (nI (f + p3), nI (2 + k), xk3, xp3)) ∨ ∃ R, lq (fun k a => sX4_readSecret_50 rg ces xw (nI (f + n)) k a.1 a.2.1 a.2.2.1 a.2.2.2) (nI (f + p), nI 2, xk', xp') k = .inr R ∧ OkS gr0 kd0 pl0 wt0 ce a n f R := by
        intro k
        induction k with
        | zero => intro _; exact .inl ⟨p, kd, pl, xk', xp', i1, i2, rfl⟩
        | succ k ih =>
          intro hk
          rcases ih (by omega) with ⟨p3, kd3, pl3, xk3, xp3, k1, k2, k3⟩ | ⟨R, k3, k4⟩
          · have hp := k1.1
            rw [lq_inl k3]
            dsimp only
            unfold sX4_readSecret_50
            rcases sign_eq hf hc hp 44 with ⟨j1, j2, j3⟩ | ⟨j1, j3⟩
            · rw [j3]
              dsimp only
              rw [if_neg n10]
              have h2 : DT gr0 kd0 pl0 wt0 ce a n (p3 + 1) (2, nI (2 + k), 0, gr0, kd3, pl3, wt0) := by
                refine DT_step ha j1 k1 ?_ (by decide)
                rw [tk1, j2, if_pos rfl, if_neg (fun h => by have := (nI_leI (a := 6) (by decide) (by omega)).mp h; omega)]
              rcases rdA ha hf hc (by omega : 2 + k < 6) h2 k2 with ⟨r1, r2⟩ | ⟨r1, r3, r4, kd', pl', r5, r6⟩
              · rw [if_pos r1]; exact .inr ⟨_, rfl, .inl ⟨rfl, r2⟩⟩
              · rw [if_neg (by rw [r1]; decide), r3, r4]
                exact .inl ⟨_, kd', pl', _, _, r5, r6, rfl⟩
            · rw [j3]
              dsimp only
              rw [if_pos z00]
              refine .inr ⟨_, rfl, rdTail ha hf hc (by omega) (by omega) k1 k2 (fun hlt he => ?_)⟩
              rcases j1 with j1 | ⟨-, j1⟩
              · omega
              · exact absurd he j1
          · rw [lq_inr k3]; exact .inr ⟨R, rfl, k4⟩
      rcases hl2 4 (Nat.le_refl _) with ⟨p3, kd3, pl3, xk3, xp3, k1, k2, k3⟩ | ⟨R, k3, k4⟩
      · rw [show (6 - 2 : Nat) = 4 from rfl, k3]
        exact rdTail ha hf hc (by omega) (by omega) k1 k2 (fun _ _ => rfl)
      · rw [show (6 - 2 : Nat) = 4 from rfl, k3]; exact k4
    · have e0 : lq (fun k a => sX4_readSecret_22 rg ces xw (nI (f + n)) k a.1 a.2.1 a.2.2.1 a.2.2.2) (nI (f + (0 + 1)), 0, xk, xp) 2 = .inr R := i3
      rw [e0]; exact i4
  · rw [show nI f = nI (f + 0) from rfl, g3]
    dsimp only
    rw [if_pos z00]
    refine .inl ⟨rfl, 0, Nat.zero_le _, rfl, DT_fail ha hD (fun hlt => ?_) (fun _ => .inl (by decide))⟩
    rcases g1 with g1 | ⟨-, g1⟩
    · omega
    · rw [tk0, if_neg g1]
end RS
theorem rpN {ax : Int32} {ces xw : Nat → Int32} {en : Int32} : ∃ q, q ≤ 5 ∧ (fX4_readThePillars ax 0 ces xw en).2.2.1 = nI q ∨ (fX4_readThePillars ax 0 ces xw en).1 = 0 := by
  have h : ∀ k, k ≤ 5 → (∃ ax' xw', lq (fun k a => sX4_readThePillars_0 ces en k a.1 a.2.1 a.2.2) (ax, 0, xw) k = .inl (ax', nI k, xw')) ∨ ∃ R, lq (fun k a => sX4_readThePillars_0 ces en k a.1 a.2.1 a.2.2) (ax, 0, xw) k = .inr R ∧ (R.1 = 0 ∨ ∃ q, q ≤ 5 ∧ R.2.2.1 = nI q) := by
    intro k
    induction k with
    | zero => intro _; exact .inl ⟨ax, xw, rfl⟩
    | succ k ih =>
      intro hk
      rcases ih (by omega) with ⟨ax', xw', h3⟩ | ⟨R, h3, h4⟩
      · rw [lq_inl h3]
        dsimp only
        unfold sX4_readThePillars_0
        rw [nI_1]
        split
        · split
          · exact .inr ⟨_, rfl, .inl rfl⟩
          · split
            · exact .inr ⟨_, rfl, .inl rfl⟩
            · exact .inl ⟨_, _, rfl⟩
        · split
          · refine .inr ⟨_, rfl, .inr ⟨k, by omega, ?_⟩⟩
            unfold aX4_readThePillars_0
            split <;> rfl
          · split
            · exact .inr ⟨_, rfl, .inl rfl⟩
            · split
              · exact .inr ⟨_, rfl, .inl rfl⟩
              · exact .inl ⟨_, _, rfl⟩
      · rw [lq_inr h3]; exact .inr ⟨R, rfl, h4⟩
  unfold fX4_readThePillars
  rcases h 5 (Nat.le_refl _) with ⟨ax', xw', h3⟩ | ⟨R, h3, h4 | ⟨q, h4, h5⟩⟩
  · rw [h3]
    refine ⟨5, .inl ⟨Nat.le_refl _, ?_⟩⟩
    show (aX4_readThePillars_0 en ax' (nI 5) xw').2.2.1 = _
    unfold aX4_readThePillars_0
    split <;> rfl
  · rw [h3]; exact ⟨0, .inr h4⟩
  · rw [h3]; exact ⟨q, .inl ⟨h4, h5⟩⟩
def NRs (R : Int32 × Int32 × Int32 × Int32 × Int32 × (Nat → Int32) × (Nat → Int32) × (Nat → Int32)) : Prop := R.1 = 0 ∨ ∃ m q, m ≤ 6 ∧ q ≤ 5 ∧ R.2.2.1 = nI m ∧ R.2.2.2.1 = nI q
theorem tailN {rg ax : Int32} {ces xw xk xp : Nat → Int32} {en : Int32} {m : Nat} (hm : m ≤ 6) : NRs (aX4_readSecret_50 rg ces xw en ax (nI m) xk xp) := by
  unfold aX4_readSecret_50
  split
  · exact .inl rfl
  · split
    · exact .inl rfl
    · split
      · exact .inl rfl
      · rename_i c
        obtain ⟨q, ⟨h1, h2⟩ | h1⟩ := rpN (ax := (fX4_digit (fX4_isSign ax ces en 59).2 ces en 0).2) (ces := ces) (xw := xw) (en := en)
        · exact .inr ⟨m, q, hm, h1, rfl, h2⟩
        · exact absurd h1 c
theorem readN (ax rg : Int32) (ces xk xp xw : Nat → Int32) (en : Int32) : NRs (fX4_readSecret ax rg ces xk xp xw en) := by
  unfold fX4_readSecret
  split
  · exact .inl rfl
  · generalize (fX4_isSign ax ces en 97).2 = ax1
    have hl : ∀ k, k ≤ 2 → (∃ ax' xk' xp', lq (fun k a => sX4_readSecret_22 rg ces xw en k a.1 a.2.1 a.2.2.1 a.2.2.2) (ax1, 0, xk, xp) k = .inl (ax', nI k, xk', xp')) ∨ ∃ R, lq (fun k a => sX4_readSecret_22 rg ces xw en k a.1 a.2.1 a.2.2.1 a.2.2.2) (ax1, 0, xk, xp) k = .inr R ∧ NRs R := by
      intro k
      induction k with
      | zero => intro _; exact .inl ⟨ax1, xk, xp, rfl⟩
      | succ k ih =>
        intro hk
        rcases ih (by omega) with ⟨ax', xk', xp', i3⟩ | ⟨R, i3, i4⟩
        · rw [lq_inl i3]
          dsimp only
          unfold sX4_readSecret_22
          split
          · exact .inr ⟨_, rfl, .inl rfl⟩
          · split
            · exact .inr ⟨_, rfl, .inl rfl⟩
            · rename_i c
              exact .inl ⟨_, _, _, congrArg Sum.inl (Prod.ext rfl (Prod.ext (mRA c rfl) rfl))⟩
        · rw [lq_inr i3]; exact .inr ⟨R, rfl, i4⟩
    rcases hl 2 (Nat.le_refl _) with ⟨ax', xk', xp', i3⟩ | ⟨R, i3, i4⟩
    · rw [i3]
      show NRs (aX4_readSecret_22 rg ces xw en ax' (nI 2) xk' xp')
      unfold aX4_readSecret_22
      have hl2 : ∀ k, k ≤ 4 → (∃ ax3 xk3 xp3, lq (fun k a => sX4_readSecret_50 rg ces xw en k a.1 a.2.1 a.2.2.1 a.2.2.2) (ax', nI 2, xk', xp') k = .inl (ax3, nI (2 + k), xk3, xp3)) ∨ ∃ R, lq (fun k a => sX4_readSecret_50 rg ces xw en k a.1 a.2.1 a.2.2.1 a.2.2.2) (ax', nI 2, xk', xp') k = .inr R ∧ NRs R := by
        intro k
        induction k with
        | zero => intro _; exact .inl ⟨ax', xk', xp', rfl⟩
        | succ k ih =>
          intro hk
          rcases ih (by omega) with ⟨ax3, xk3, xp3, i3⟩ | ⟨R, i3, i4⟩
          · rw [lq_inl i3]
            dsimp only
            unfold sX4_readSecret_50
            split
            · exact .inr ⟨_, rfl, tailN (by omega)⟩
            · split
              · exact .inr ⟨_, rfl, .inl rfl⟩
              · rename_i c
                exact .inl ⟨_, _, _, congrArg Sum.inl (Prod.ext rfl (Prod.ext (mRA c rfl) rfl))⟩
          · rw [lq_inr i3]; exact .inr ⟨R, rfl, i4⟩
      rcases hl2 4 (Nat.le_refl _) with ⟨ax3, xk3, xp3, k3⟩ | ⟨R, k3, k4⟩
      · rw [show (6 - 2 : Nat) = 4 from rfl, k3]
        exact tailN (by omega)
      · rw [show (6 - 2 : Nat) = 4 from rfl, k3]; exact k4
    · rw [i3]; exact i4
theorem rs_n {ax rg : Int32} {ces xk xp xw : Nat → Int32} {en : Int32} (h : ¬ (fX4_readSecret ax rg ces xk xp xw en).1 = 0) : (fX4_readSecret ax rg ces xk xp xw en).2.2.1 = nI (Nat.min 6 (fX4_readSecret ax rg ces xk xp xw en).2.2.1.toNatClampNeg) ∧ (fX4_readSecret ax rg ces xk xp xw en).2.2.2.1 = nI (Nat.min 5 (fX4_readSecret ax rg ces xk xp xw en).2.2.2.1.toNatClampNeg) := by
  rcases readN ax rg ces xk xp xw en with c | ⟨m, q, h1, h2, h3, h4⟩
  · exact absurd c h
  · rw [h3, h4, nI_clamp (by omega), nI_clamp (by omega)]
    exact ⟨congrArg nI (Nat.min_eq_right h1).symm, congrArg nI (Nat.min_eq_right h2).symm⟩
