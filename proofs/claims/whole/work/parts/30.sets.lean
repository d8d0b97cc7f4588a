section OD
variable {kd pl mkd mpl : Nat → Int32} {N : Nat} {an : Int32}
theorem grp_k (hM : rM N mkd mpl) {x k S : Nat} (hx : x < N) (hk : k < N) (hS : S < 2 ^ N) (ht : S.testBit k = true) : gG mkd mpl N x (fX4_shownBy mkd mpl (nI x) (nI k)) S < 2 ^ N ∧ (gG mkd mpl N x (fX4_shownBy mkd mpl (nI x) (nI k)) S).testBit k = true := by
  refine ⟨maskF_lt _ N, ?_⟩
  unfold gG
  rw [maskF_testBit, ht]
  simp [hk]
theorem and_alike (hA : rA N an kd pl mkd mpl) {x k S : Nat} (hx : x < N) (hk : k < N) (hS : S < 2 ^ N) : nI S &&& fX1_alike kd pl N (nI x) (nI k) = nI (gG mkd mpl N x (fX4_shownBy mkd mpl (nI x) (nI k)) S) := by
  rw [alike_eq hA hx hk, mAnd]
  congr 1
  conv => lhs; rw [← maskF_self hS]
  rw [mask_and]
  rfl
theorem SF_lt (hM : rM N mkd mpl) {S : Nat} (hS : S < 2 ^ N) (h0 : 0 < S) : SF mkd mpl N S < N := ((SX_some hM.1 (rM_sh hM) S hS).2.2 h0).2.1
theorem pos_of_tb {S k : Nat} (ht : S.testBit k = true) : 0 < S := Nat.pos_of_ne_zero (fun e => by rw [e, Nat.zero_testBit] at ht; cases ht)
theorem bound_eq (hA : rA N an kd pl mkd mpl) {fi mwo : Nat → Int32} (hf : ∀ S, 0 < S → S < 2 ^ N → fi S = nI (SF mkd mpl N S)) (hw : ∀ S, S < 2 ^ N → mwo S = nI (SW mkd mpl N S)) {k : Nat} (hk : k < N) (n : Nat) : fX3_isBoundWithin an kd pl fi N n (nI k) = fX4_isBound an mkd mpl mwo N n (nI k) := by
  have hM := rA_M hA
  have hN := hM.1
  have h : ∀ m, (∃ S, S < 2 ^ N ∧ S.testBit k = true ∧ lq (fun k9 a => sX3_isBoundWithin_12 kd pl fi N (nI k) k9 a) (fX1_all an) m = .inl (nI S) ∧ lq (fun k9 a => sX4_isBound_12 mkd mpl mwo N (nI k) k9 a) ((1 <<< (an &&& 31)) - 1) m = .inl (nI S)) ∨ (lq (fun k9 a => sX3_isBoundWithin_12 kd pl fi N (nI k) k9 a) (fX1_all an) m = .inr 1 ∧ lq (fun k9 a => sX4_isBound_12 mkd mpl mwo N (nI k) k9 a) ((1 <<< (an &&& 31)) - 1) m = .inr 1) := by
    intro m
    induction m with
    | zero =>
      have hp : 0 < 2 ^ N := Nat.pow_pos (by decide)
      refine .inl ⟨2 ^ N - 1, by omega, by rw [Nat.testBit_two_pow_sub_one]; exact decide_eq_true hk, ?_, ?_⟩
      · show Sum.inl (fX1_all an) = _
        rw [show fX1_all an = (1 <<< (an &&& 31)) - 1 from rfl, mAll hA.1 hN]
      · show Sum.inl ((1 <<< (an &&& 31)) - 1) = _
        rw [mAll hA.1 hN]
    | succ m ih =>
      rcases ih with ⟨S, hS, ht, h1, h2⟩ | ⟨h1, h2⟩
      · have h0 := pos_of_tb ht
        have h64 := Nat.lt_of_lt_of_le hS (pow64 hN)
        have hF := SF_lt hM hS h0
        have e1 : fX0_askOf fi (nI S) = nI (SF mkd mpl N S) := by
          unfold fX0_askOf
          rw [if_neg (nI_ne0 h0 (by omega)), at64 h64, hf S h0 hS]
        have e2 : fX4_askOf mkd mpl mwo N (nI S) = nI (SF mkd mpl N S) := by
          rw [askOf_eq hM hS (fun T hT => hw T (by omega)), if_neg (by omega)]
        rw [lq_inl h1, lq_inl h2]
        unfold sX3_isBoundWithin_12 sX4_isBound_12
        rw [e1, e2]
        by_cases c : nI (SF mkd mpl N S) = nI k
        · rw [if_pos c, if_pos c]; exact .inr ⟨rfl, rfl⟩
        · rw [if_neg c, if_neg c, and_alike hA hF hk hS, group_eq hN h64]
          have hg := grp_k hM hF hk hS ht
          exact .inl ⟨_, hg.1, hg.2, rfl, rfl⟩
      · rw [lq_inr h1, lq_inr h2]; exact .inr ⟨rfl, rfl⟩
  unfold fX3_isBoundWithin fX4_isBound
  rcases h n with ⟨S, -, -, h1, h2⟩ | ⟨h1, h2⟩
  · rw [h1, h2]; rfl
  · rw [h1, h2]; rfl
theorem e_odds (hA : rA N an kd pl mkd mpl) {old pa : Int32} {al wo fi ni mwo msu : Nat → Int32} (hP : rPl N an kd pl old al wo fi ni pa) (nn wh : Int32) :
    (fX3_odds old an kd pl al wo fi ni pa N (2 ^ N - 1) nn wh).1 = (fX4_odds an mkd mpl mwo msu N (2 ^ N - 1) nn wh).1 := by
  have hN := hA.2.1
  have hp : 0 < 2 ^ N := Nat.pow_pos (by decide)
  unfold fX3_odds fX4_odds
  rw [noS_if]
  by_cases c : an = 0
  · rw [if_pos c, if_pos c]
  · rw [if_neg c, if_neg c, show fX3_within nn 9 = fX4_within nn 0 9 from eW nn 9, show fX3_within wh 1 = fX4_within wh 0 1 from eW wh 1]
    by_cases c1 : fX4_within nn 0 9 = 0
    · rw [if_pos c1, if_pos c1]
    · rw [if_neg c1, if_neg c1]
      by_cases c3 : fX4_within wh 0 1 = 0
      · rw [if_pos c3, if_pos c3]
      · rw [if_neg c3, if_neg c3]
        have h : ∀ k, k ≤ N → ∃ v, v ≤ k ∧ lp (fun k a => sX3_odds_39 old an kd pl al wo fi ni pa N (2 ^ N - 1) nn k a) 0 k = nI v ∧ lp (fun k a => sX4_odds_47 an mkd mpl mwo msu N (2 ^ N - 1) nn k a) 0 k = nI v := by
          intro k
          induction k with
          | zero => intro _; exact ⟨0, Nat.le_refl _, rfl, rfl⟩
          | succ k ih =>
            intro hk
            obtain ⟨v, h1, h2, h3⟩ := ih (by omega)
            have hb := bound_eq hA (fun S h0 hS => (planned_tab hA hP hS).2.2 h0) (mwo := (fX4_findWorst mkd mpl mwo msu N (2 ^ N - 1)).1) (fun S hS => (ref_tab (rA_M hA) (by omega) (by omega)).1) (by omega : k < N) nn.toNatClampNeg
            rw [lp_succ, lp_succ, h2, h3]
            unfold sX3_odds_39 sX4_odds_47
            rw [hb]
            by_cases c5 : fX4_isBound an mkd mpl (fX4_findWorst mkd mpl mwo msu N (2 ^ N - 1)).1 N nn.toNatClampNeg (nI k) = 0
            · rw [if_pos c5, if_pos c5]
              exact ⟨v, by omega, rfl, Int32.add_zero _⟩
            · rw [if_neg c5, if_neg c5]
              exact ⟨v + 1, by omega, nI_1 v, nI_1 v⟩
        obtain ⟨v, h1, h2, h3⟩ := h N (Nat.le_refl _)
        unfold aX3_odds_39 aX4_odds_47
        rw [h2, h3, nI_clamp (by omega)]
        dsimp only
        rw [show fX1_answers an = nI N from hA.1]
        exact share_eq (by omega) (by omega) (mPos hA.1 c) wh
end OD
section ST
variable {kd pl mkd mpl : Nat → Int32} {N : Nat} {an : Int32}
theorem isA_eq (an x : Int32) : fX3_isAnswer an x = fX4_isAnswer an x := rfl
theorem e_shown (hA : rA N an kd pl mkd mpl) (x t : Int32) : fX3_shown an kd pl x t = fX4_shown an mkd mpl x t := by
  unfold fX3_shown fX4_shown
  rw [isA_eq, isA_eq]
  by_cases c : fX4_isAnswer an x = 0
  · rw [if_pos c, if_pos c]
  · rw [if_neg c, if_neg c]
    by_cases c1 : fX4_isAnswer an t = 0
    · rw [if_pos c1, if_pos c1]
    · rw [if_neg c1, if_neg c1]
      obtain ⟨j, hj, rfl⟩ := mAnsJ hA.1 hA.2.1 c
      obtain ⟨i, hi, rfl⟩ := mAnsJ hA.1 hA.2.1 c1
      exact eSh hA hj hi
/-- what was shown goes with t as the truth -/
def okF (kd pl : Nat → Int32) (ask shw : Nat → Int32) (t : Nat) : Nat → Bool
  | 0 => true
  | r + 1 => okF kd pl ask shw t r && decide (fX4_shownBy kd pl (ask r) (nI t) = shw r)
theorem at8 {f : Nat → Int32} {j : Nat} (h : j < 8) : fX3_at 8 f (nI j) = f j := atN h (by decide)
theorem wr8 {f : Nat → Int32} {j : Nat} {v : Int32} (h : j < 8) : fX3_write 8 f (nI j) v = upd f j v := wrN h (by decide)
theorem are_eq (hA : rA N an kd pl mkd mpl) {rd : Int32} {ask shw mask mshw : Nat → Int32} {Rn : Nat} (hR : rR N Rn rd ask shw mask mshw) {t : Nat} (ht : t < N) : fX3_areReadingsSo kd pl ask shw Rn (nI t) = if okF mkd mpl mask mshw t Rn = true then 1 else 0 := by
  have h8 := hR.2.1
  have h : ∀ k, k ≤ Rn → lq (fun k a => sX3_areReadingsSo_2 kd pl ask shw (nI t) k a) () k = if okF mkd mpl mask mshw t k = true then .inl () else .inr 0 := by
    intro k
    induction k with
    | zero => intro _; rfl
    | succ k ih =>
      intro hk
      have ihk := ih (by omega)
      obtain ⟨e1, e2, a, ha, e3⟩ := hR.2.2 k (by omega)
      by_cases c : okF mkd mpl mask mshw t k = true
      · rw [if_pos c] at ihk
        rw [lq_inl ihk]
        unfold sX3_areReadingsSo_2
        rw [at8 (by omega), at8 (by omega), e3, eSh hA ha ht]
        show _ = if (okF mkd mpl mask mshw t k && decide (fX4_shownBy mkd mpl (mask k) (nI t) = mshw k)) = true then _ else _
        rw [c, Bool.true_and, e1, e2, e3]
        by_cases c2 : fX4_shownBy mkd mpl (nI a) (nI t) = shw k
        · rw [if_pos c2, if_pos (decide_eq_true c2)]
        · rw [if_neg c2, if_neg (by rw [decide_eq_false c2]; decide)]
      · rw [if_neg c] at ihk
        rw [lq_inr ihk]
        show _ = if (okF mkd mpl mask mshw t k && decide (fX4_shownBy mkd mpl (mask k) (nI t) = mshw k)) = true then _ else _
        rw [if_neg (fun e => c (by rw [Bool.and_eq_true] at e; exact e.1))]
  unfold fX3_areReadingsSo
  rw [h Rn (Nat.le_refl _)]
  by_cases c : okF mkd mpl mask mshw t Rn = true
  · rw [if_pos c, if_pos c]; rfl
  · rw [if_neg c, if_neg c]; rfl
theorem truths_eq (hA : rA N an kd pl mkd mpl) {rd : Int32} {ask shw mask mshw : Nat → Int32} {Rn : Nat} (hR : rR N Rn rd ask shw mask mshw) : fX3_truths kd pl ask shw N Rn = nI (maskF (fun t => okF mkd mpl mask mshw t Rn) N) := by
  have hN := hA.2.1
  unfold fX3_truths aX3_truths_4
  have h : ∀ k, k ≤ N → lp (fun k a => sX3_truths_4 kd pl ask shw Rn k a) 0 k = nI (maskF (fun t => okF mkd mpl mask mshw t Rn) k) := by
    intro k
    induction k with
    | zero => intro _; rfl
    | succ k ih =>
      intro hk
      rw [lp_succ, ih (by omega)]
      show _ = nI (maskF _ k + _)
      rw [maskF_or]
      unfold sX3_truths_4
      rw [are_eq hA hR (by omega)]
      by_cases c : okF mkd mpl mask mshw k Rn = true
      · rw [if_pos c, if_neg (by decide), if_pos c, mP2 (by omega), mOr]
      · rw [if_neg c, if_pos rfl, if_neg c]
  exact h N (Nat.le_refl _)
theorem left_eq (hM : rM N mkd mpl) (ha : an = nI N) {mask mshw : Nat → Int32} {Rn : Nat} (hR8 : Rn ≤ 8) (hask : ∀ j, j < Rn → ∃ a, a < N ∧ mask j = nI a) : fX4_leftSet an mkd mpl mask mshw N Rn = nI (maskF (fun t => okF mkd mpl mask mshw t Rn) N) := by
  have hN := hM.1
  unfold fX4_leftSet aX4_leftSet_11
  have h : ∀ k, k ≤ Rn → lp (fun k a => sX4_leftSet_11 mkd mpl mask mshw N k a) ((1 <<< (an &&& 31)) - 1) k = nI (maskF (fun t => okF mkd mpl mask mshw t k) N) := by
    intro k
    induction k with
    | zero =>
      intro _
      show (1 <<< (an &&& 31)) - 1 = _
      rw [mAll ha hN]
      congr 1
      apply Nat.eq_of_testBit_eq
      intro i
      rw [Nat.testBit_two_pow_sub_one, maskF_testBit]
      simp [okF]
    | succ k ih =>
      intro hk
      rw [lp_succ, ih (by omega)]
      unfold sX4_leftSet_11
      obtain ⟨a, ha, e⟩ := hask k (by omega)
      rw [nI_clamp (by omega), e, group_eq hN (maskF_64 hN)]
      congr 1
      refine maskF_congr N (fun t ht => ?_)
      rw [maskF_testBit, decide_eq_true ht, Bool.true_and]
      show _ = (okF mkd mpl mask mshw t k && decide (fX4_shownBy mkd mpl (mask k) (nI t) = mshw k))
      rw [e]
  exact h Rn (Nat.le_refl _)
theorem rR_ask {rd : Int32} {ask shw mask mshw : Nat → Int32} {Rn : Nat} (hR : rR N Rn rd ask shw mask mshw) : ∀ j, j < Rn → ∃ a, a < N ∧ mask j = nI a := fun j hj => by
  obtain ⟨e1, -, a, ha, e3⟩ := hR.2.2 j hj
  exact ⟨a, ha, e1.trans e3⟩
theorem tl_eq (hA : rA N an kd pl mkd mpl) {rd : Int32} {ask shw mask mshw : Nat → Int32} {Rn : Nat} (hR : rR N Rn rd ask shw mask mshw) : fX3_truths kd pl ask shw N Rn = fX4_leftSet an mkd mpl mask mshw N Rn := by
  rw [truths_eq hA hR, left_eq (rA_M hA) hA.1 hR.2.1 (rR_ask hR)]
theorem e_left (hA : rA N an kd pl mkd mpl) {rd : Int32} {ask shw mask mshw : Nat → Int32} {Rn : Nat} (hR : rR N Rn rd ask shw mask mshw) : fX3_left ask shw an kd pl N Rn = fX4_left an mkd mpl mask mshw N Rn := by
  unfold fX3_left fX4_left
  rw [noS_if, tl_eq hA hR]
theorem or0 (x : Int32) : x ||| 0 = x := by
  apply Int32.toBitVec_inj.1
  show x.toBitVec ||| 0#32 = x.toBitVec
  simp
theorem e_kinds (hA : rA N an kd pl mkd mpl) {rd : Int32} {ask shw mask mshw : Nat → Int32} {Rn : Nat} (hR : rR N Rn rd ask shw mask mshw) (x : Int32) : (fX3_kinds ask shw an kd pl N Rn x).1 = (fX4_kinds an mkd mpl mask mshw N Rn x).1 ∧ (fX3_kinds ask shw an kd pl N Rn x).2 = kd ∧ (fX4_kinds an mkd mpl mask mshw N Rn x).2 = mkd := by
  unfold fX3_kinds fX4_kinds
  rw [isA_eq]
  by_cases c : fX4_isAnswer an x = 0
  · rw [if_pos c, if_pos c]; exact ⟨rfl, rfl, rfl⟩
  · rw [if_neg c, if_neg c]
    obtain ⟨j, hj, rfl⟩ := mAnsJ hA.1 hA.2.1 c
    have h6 := rA_6 hA hj
    have h : ∀ k, k ≤ 3 → ∃ v K K', lp (fun k a => sX3_kinds_24 ask shw pl N Rn (nI j) k a.1 a.2) (0, kd) k = (v, K) ∧ lp (fun k a => sX4_kinds_22 an mpl mask mshw N Rn (nI j) k a.1 a.2) (0, mkd) k = (v, K') ∧ (K = kd ∨ ∃ b, K = upd kd j b) ∧ (K' = mkd ∨ ∃ b, K' = upd mkd j b) := by
      intro k
      induction k with
      | zero => intro _; exact ⟨0, kd, mkd, rfl, rfl, .inl rfl, .inl rfl⟩
      | succ k ih =>
        intro hk
        obtain ⟨v, K, K', h1, h2, h3, h4⟩ := ih (by omega)
        rw [lp_succ, lp_succ, h1, h2]
        dsimp only
        unfold sX3_kinds_24 sX4_kinds_22 fX1_setKind
        rw [wr6 h6, nI_clamp (by omega)]
        have e1 : upd K j (nI k) = upd kd j (nI k) := by
          rcases h3 with e | ⟨b, e⟩
          · rw [e]
          · rw [e, updupd]
        have e2 : upd K' j (nI k) = upd mkd j (nI k) := by
          rcases h4 with e | ⟨b, e⟩
          · rw [e]
          · rw [e, updupd]
        rw [e1, e2, tl_eq (rA_mkd hA j (by omega : k ≤ 2)) hR, or0]
        by_cases c2 : fX4_leftSet an (upd mkd j (nI k)) mpl mask mshw N Rn = 0
        · rw [if_pos c2, if_pos c2]; exact ⟨_, _, _, rfl, rfl, .inr ⟨_, rfl⟩, .inr ⟨_, rfl⟩⟩
        · rw [if_neg c2, if_neg c2]; exact ⟨_, _, _, rfl, rfl, .inr ⟨_, rfl⟩, .inr ⟨_, rfl⟩⟩
    obtain ⟨v, K, K', h1, h2, h3, h4⟩ := h 3 (Nat.le_refl _)
    rw [h1, h2]
    unfold aX3_kinds_24 aX4_kinds_22 fX1_setKind fX1_kindOf
    dsimp only
    rw [at6 h6, wr6 h6, nI_clamp (by omega)]
    refine ⟨rfl, ?_, ?_⟩
    · rcases h3 with e | ⟨b, e⟩
      · rw [e]; exact updsame rfl
      · rw [e, updupd]; exact updsame rfl
    · rcases h4 with e | ⟨b, e⟩
      · rw [e]; exact updsame rfl
      · rw [e, updupd]; exact updsame rfl
theorem e_places (hA : rA N an kd pl mkd mpl) {rd : Int32} {ask shw mask mshw : Nat → Int32} {Rn : Nat} (hR : rR N Rn rd ask shw mask mshw) (x : Int32) : (fX3_places ask shw an kd pl N Rn x).1 = (fX4_places an mkd mpl mask mshw N Rn x).1 ∧ (fX3_places ask shw an kd pl N Rn x).2 = pl ∧ (fX4_places an mkd mpl mask mshw N Rn x).2 = mpl := by
  unfold fX3_places fX4_places
  rw [isA_eq]
  by_cases c : fX4_isAnswer an x = 0
  · rw [if_pos c, if_pos c]; exact ⟨rfl, rfl, rfl⟩
  · rw [if_neg c, if_neg c]
    obtain ⟨j, hj, rfl⟩ := mAnsJ hA.1 hA.2.1 c
    have h6 := rA_6 hA hj
    have h : ∀ k, k ≤ 10 → ∃ v K K', lp (fun k a => sX3_places_24 ask shw kd N Rn (nI j) k a.1 a.2) (0, pl) k = (v, K) ∧ lp (fun k a => sX4_places_22 an mkd mask mshw N Rn (nI j) k a.1 a.2) (0, mpl) k = (v, K') ∧ (K = pl ∨ ∃ b, K = upd pl j b) ∧ (K' = mpl ∨ ∃ b, K' = upd mpl j b) := by
      intro k
      induction k with
      | zero => intro _; exact ⟨0, pl, mpl, rfl, rfl, .inl rfl, .inl rfl⟩
      | succ k ih =>
        intro hk
        obtain ⟨v, K, K', h1, h2, h3, h4⟩ := ih (by omega)
        rw [lp_succ, lp_succ, h1, h2]
        dsimp only
        unfold sX3_places_24 sX4_places_22 fX1_setPlace
        rw [wr6 h6, nI_clamp (by omega)]
        have e1 : upd K j (nI k) = upd pl j (nI k) := by
          rcases h3 with e | ⟨b, e⟩
          · rw [e]
          · rw [e, updupd]
        have e2 : upd K' j (nI k) = upd mpl j (nI k) := by
          rcases h4 with e | ⟨b, e⟩
          · rw [e]
          · rw [e, updupd]
        rw [e1, e2, tl_eq (rA_mpl hA j (by omega : k ≤ 9)) hR, or0]
        by_cases c2 : fX4_leftSet an mkd (upd mpl j (nI k)) mask mshw N Rn = 0
        · rw [if_pos c2, if_pos c2]; exact ⟨_, _, _, rfl, rfl, .inr ⟨_, rfl⟩, .inr ⟨_, rfl⟩⟩
        · rw [if_neg c2, if_neg c2]; exact ⟨_, _, _, rfl, rfl, .inr ⟨_, rfl⟩, .inr ⟨_, rfl⟩⟩
    obtain ⟨v, K, K', h1, h2, h3, h4⟩ := h 10 (Nat.le_refl _)
    rw [h1, h2]
    unfold aX3_places_24 aX4_places_22 fX1_setPlace fX1_placeOf
    dsimp only
    rw [at6 h6, wr6 h6, nI_clamp (by omega)]
    refine ⟨rfl, ?_, ?_⟩
    · rcases h3 with e | ⟨b, e⟩
      · rw [e]; exact updsame rfl
      · rw [e, updupd]; exact updsame rfl
    · rcases h4 with e | ⟨b, e⟩
      · rw [e]; exact updsame rfl
      · rw [e, updupd]; exact updsame rfl
theorem e_tell (hA : rA N an kd pl mkd mpl) (tr x : Int32) : fX3_tell tr an kd pl x = fX4_tell tr an mkd mpl x := by
  unfold fX3_tell fX4_tell
  rw [isA_eq]
  by_cases c : fX4_isAnswer an x = 0
  · rw [if_pos c, if_pos c]
  · rw [if_neg c, if_neg c]
    obtain ⟨j, hj, rfl⟩ := mAnsJ hA.1 hA.2.1 c
    have h6 := rA_6 hA hj
    obtain ⟨-, -, -, ⟨b, hb, eb⟩⟩ := hA.2.2 j hj
    unfold fX3_tellVain fX3_tellSly fX3_tellPlain fX1_kindOf fX1_placeOf
    rw [at6 h6, at6 h6, nI_clamp (by omega), rA_kd hA hj, rA_pl hA hj, eb]
    by_cases c1 : kd j = 1
    · rw [if_pos c1, if_pos c1]
    · rw [if_neg c1, if_neg c1]
      by_cases c2 : kd j = 2
      · rw [if_pos c2, if_pos c2]
        dsimp only
        rw [show (100 : Int32) = nI 100 from rfl, show (2 : Int32) * nI b = nI 2 * nI b from rfl, pk_mul, nI_add, nI_add, nI_add, show b + 100 + b = 2 * b + 100 by omega]
      · rw [if_neg c2, if_neg c2]
theorem e_whisper (hA : rA N an kd pl mkd mpl) (tr x : Int32) : fX3_whisper tr an kd x = fX4_whisper tr an mkd x := by
  unfold fX3_whisper fX4_whisper
  rw [isA_eq]
  by_cases c : fX4_isAnswer an x = 0
  · rw [if_pos c, if_pos c]
  · rw [if_neg c, if_neg c]
    obtain ⟨j, hj, rfl⟩ := mAnsJ hA.1 hA.2.1 c
    have h6 := rA_6 hA hj
    unfold fX1_kindOf
    rw [at6 h6, nI_clamp (by omega), rA_kd hA hj]
    rfl
theorem e_as (hA : rA N an kd pl mkd mpl) (x ki : Int32) : fX3_as an kd x ki = fX4_as an mkd x ki := by
  unfold fX3_as fX4_as
  rw [isA_eq, show fX3_within ki 2 = fX4_within ki 0 2 from eW ki 2]
  by_cases c : fX4_isAnswer an x = 0
  · rw [if_pos c, if_pos c]
  · rw [if_neg c, if_neg c]
    obtain ⟨j, hj, rfl⟩ := mAnsJ hA.1 hA.2.1 c
    have h6 := rA_6 hA hj
    unfold fX1_kindOf
    rw [at6 h6, nI_clamp (by omega), rA_kd hA hj]
theorem e_reading {rd : Int32} {ask shw mask mshw : Nat → Int32} {Rn : Nat} (hA : rA N an kd pl mkd mpl) (hR : rR N Rn rd ask shw mask mshw) (x v : Int32) : (fX3_reading rd ask shw an x v).1 = (fX4_reading an rd mask mshw x v).1 ∧ (fX3_reading rd ask shw an x v).2.1 = (fX4_reading an rd mask mshw x v).2.1 ∧ ∃ R2, rR N R2 (fX4_reading an rd mask mshw x v).2.1 (fX3_reading rd ask shw an x v).2.2.1 (fX3_reading rd ask shw an x v).2.2.2 (fX4_reading an rd mask mshw x v).2.2.1 (fX4_reading an rd mask mshw x v).2.2.2 := by
  have key : ∀ j, j < N → x = nI j → (if rd < 8 then (rd, (rd + 1), (fX3_write 8 ask rd x), (fX3_write 8 shw rd v)) else ((-4), rd, ask, shw)).1 = (if rd = 8 then ((-4), rd, mask, mshw) else (((rd + 1) - 1), (rd + 1), (upd mask rd.toNatClampNeg x), (upd mshw rd.toNatClampNeg v))).1 ∧ (if rd < 8 then (rd, (rd + 1), (fX3_write 8 ask rd x), (fX3_write 8 shw rd v)) else ((-4), rd, ask, shw)).2.1 = (if rd = 8 then ((-4), rd, mask, mshw) else (((rd + 1) - 1), (rd + 1), (upd mask rd.toNatClampNeg x), (upd mshw rd.toNatClampNeg v))).2.1 ∧ ∃ R2, rR N R2 (if rd = 8 then ((-4), rd, mask, mshw) else (((rd + 1) - 1), (rd + 1), (upd mask rd.toNatClampNeg x), (upd mshw rd.toNatClampNeg v))).2.1 (if rd < 8 then (rd, (rd + 1), (fX3_write 8 ask rd x), (fX3_write 8 shw rd v)) else ((-4), rd, ask, shw)).2.2.1 (if rd < 8 then (rd, (rd + 1), (fX3_write 8 ask rd x), (fX3_write 8 shw rd v)) else ((-4), rd, ask, shw)).2.2.2 (if rd = 8 then ((-4), rd, mask, mshw) else (((rd + 1) - 1), (rd + 1), (upd mask rd.toNatClampNeg x), (upd mshw rd.toNatClampNeg v))).2.2.1 (if rd = 8 then ((-4), rd, mask, mshw) else (((rd + 1) - 1), (rd + 1), (upd mask rd.toNatClampNeg x), (upd mshw rd.toNatClampNeg v))).2.2.2 := by
    intro j hj hx
    obtain ⟨h1, h2, h3⟩ := hR
    by_cases c : Rn = 8
    · have e : rd = 8 := by rw [h1, c]; rfl
      rw [if_pos e, if_neg (by rw [e]; decide)]
      exact ⟨rfl, rfl, Rn, h1, h2, h3⟩
    · have hlt : rd < 8 := by rw [h1]; exact (nI_ltI (b := 8) (by omega) (by decide)).mpr (by omega)
      have hne : ¬ rd = 8 := fun e => by rw [e] at hlt; exact absurd hlt (by decide)
      rw [if_pos hlt, if_neg hne]
      dsimp only
      rw [mBack, h1, wr8 (by omega), wr8 (by omega), nI_clamp (by omega), nI_1]
      refine ⟨rfl, rfl, Rn + 1, rfl, by omega, fun i hi => ?_⟩
      by_cases e : i = Rn
      · subst e; rw [pk_us, pk_us, pk_us, pk_us]; exact ⟨rfl, rfl, j, hj, hx⟩
      · rw [pk_un e, pk_un e, pk_un e, pk_un e]; exact h3 i (by omega)
  unfold fX3_reading fX4_reading
  rw [isA_eq, show fX3_within v 10 = fX4_within v 0 10 from eW v 10]
  by_cases c : fX4_isAnswer an x = 0
  · rw [if_pos c, if_pos c]; exact ⟨rfl, rfl, Rn, hR⟩
  · rw [if_neg c, if_neg c]
    obtain ⟨j, hj, hx⟩ := mAnsJ hA.1 hA.2.1 c
    by_cases c1 : v = -9
    · rw [if_pos c1, if_pos c1]; exact key j hj hx
    · rw [if_neg c1, if_neg c1]
      by_cases c2 : fX4_within v 0 10 = 0
      · rw [if_pos c2, if_pos c2]; exact ⟨rfl, rfl, Rn, hR⟩
      · rw [if_neg c2, if_neg c2]; exact key j hj hx
theorem e_back {rd : Int32} {ask shw mask mshw : Nat → Int32} {Rn : Nat} (hR : rR N Rn rd ask shw mask mshw) (bk : Int32) : fX3_back rd bk = fX4_back rd bk ∧ ∃ R2, rR N R2 (fX4_back rd bk).2 ask shw mask mshw := by
  refine ⟨rfl, ?_⟩
  unfold fX4_back
  by_cases c : fX4_within bk 0 rd = 0
  · rw [if_pos c]; exact ⟨Rn, hR⟩
  · rw [if_neg c]
    obtain ⟨h1, h2, h3⟩ := hR
    rw [h1] at c
    obtain ⟨e1, e2⟩ := mWith Rn (by omega) c
    refine ⟨Rn - bk.toNatClampNeg, ?_, by omega, fun j hj => h3 j (by omega)⟩
    show rd - bk = _
    rw [h1, e1, pk_sub e2, nI_clamp (by omega)]
end ST
section PT
variable {kd pl mkd mpl : Nat → Int32} {N : Nat} {an : Int32}
/-- the value shown, or 11 of itself -/
def vF (kd pl : Nat → Int32) (x t : Nat) : Nat := if t = x then 11 else (fX4_shownBy kd pl (nI x) (nI t)).toNatClampNeg
theorem vF_eq (hM : rM N mkd mpl) {x t o : Nat} (hx : x < N) (ht : t < N) (ho : o < N) : decide (fX4_shownBy mkd mpl (nI x) (nI o) = fX4_shownBy mkd mpl (nI x) (nI t)) = decide (vF mkd mpl x o = vF mkd mpl x t) := by
  have hxx : fX4_shownBy mkd mpl (nI x) (nI x) = -9 := by rw [sh4, if_pos rfl]
  unfold vF
  by_cases c1 : o = x
  · rw [if_pos c1, c1, hxx]
    by_cases c2 : t = x
    · rw [if_pos c2, c2, hxx]; rfl
    · have h := shV hM hx ht c2
      rw [if_neg c2, decide_eq_false (by rw [h.1]; exact m9ne (by omega)), decide_eq_false (by omega)]
  · rw [if_neg c1]
    have h1 := shV hM hx ho c1
    by_cases c2 : t = x
    · rw [if_pos c2, c2, hxx, decide_eq_false (by rw [h1.1]; exact m9n (by omega)), decide_eq_false (by omega)]
    · have h2 := shV hM hx ht c2
      rw [if_neg c2]
      have : fX4_shownBy mkd mpl (nI x) (nI o) = fX4_shownBy mkd mpl (nI x) (nI t) ↔ (fX4_shownBy mkd mpl (nI x) (nI o)).toNatClampNeg = (fX4_shownBy mkd mpl (nI x) (nI t)).toNatClampNeg := ⟨fun h => by rw [h], fun h => by rw [h1.1, h2.1, h]⟩
      by_cases c3 : (fX4_shownBy mkd mpl (nI x) (nI o)).toNatClampNeg = (fX4_shownBy mkd mpl (nI x) (nI t)).toNatClampNeg
      · rw [decide_eq_true c3, decide_eq_true (this.mpr c3)]
      · rw [decide_eq_false c3, decide_eq_false (fun h => c3 (this.mp h))]
theorem vF_11 (hM : rM N mkd mpl) {x t : Nat} (hx : x < N) (ht : t < N) : vF mkd mpl x t < 12 := by
  unfold vF
  by_cases c : t = x
  · rw [if_pos c]; decide
  · rw [if_neg c]; have := (shV hM hx ht c).2; omega
theorem e_parts (hA : rA N an kd pl mkd mpl) (x se : Int32) : fX3_parts an kd pl N x se = fX4_parts an mkd mpl N x se := by
  have hM := rA_M hA
  have hN := hM.1
  unfold fX3_parts fX4_parts
  rw [isA_eq, show fX1_answers an = an from rfl, isSetOf_eq]
  by_cases c : fX4_isAnswer an x = 0
  · rw [if_pos c, if_pos c]
  · rw [if_neg c, if_neg c]
    by_cases c1 : fX4_isSet an se = 0
    · rw [if_pos c1, if_pos c1]
    · rw [if_neg c1, if_neg c1]
      obtain ⟨j, hj, rfl⟩ := mAnsJ hA.1 hA.2.1 c
      obtain ⟨S, rfl, hS⟩ := mSet hA.1 hA.2.1 c1
      have h64 := Nat.lt_of_lt_of_le hS (pow64 hN)
      let q := S.testBit
      let val := vF mkd mpl j
      let R := fun k => maskF (fun t => q t && !kF q val k (val t)) N
      let cn := fun k => sumF (fun v => if kF q val k v = true then 1 else 0) 12
      have h : ∀ k, k ≤ N → lp (fun k a => sX3_parts_35 kd pl N (nI j) k a.1 a.2) (0, nI S) k = (nI (cn k), nI (R k)) := by
        intro k
        induction k with
        | zero =>
          intro _
          have h0 : ∀ m, sumF (fun v => if kF q val 0 v = true then 1 else 0) m = 0 := by
            intro m
            induction m with
            | zero => rfl
            | succ m ih => show sumF _ m + (if false = true then _ else 0) = 0; rw [ih]; rfl
          show (0, nI S) = (nI (sumF _ 12), nI (maskF _ N))
          rw [h0]
          have : maskF (fun t => q t && !kF q val 0 (val t)) N = S := by
            conv => rhs; rw [← maskF_self hS]
            exact maskF_congr N (fun t _ => by show (q t && !false) = q t; simp)
          rw [this]; rfl
        | succ k ih =>
          intro hk
          rw [lp_succ, ih (by omega)]
          dsimp only
          unfold sX3_parts_35
          rw [hasX (maskF_64 hN) (by omega)]
          have ht : (R k).testBit k = (q k && !kF q val k (val k)) := by
            show (maskF (fun t => q t && !kF q val k (val t)) N).testBit k = _
            rw [maskF_testBit, decide_eq_true (by omega : k < N), Bool.true_and]
          rw [ht]
          by_cases c2 : (q k && !kF q val k (val k)) = true
          · rw [if_neg (by rw [if_pos c2]; decide)]
            rw [Bool.and_eq_true, Bool.not_eq_true'] at c2
            obtain ⟨hqk, hnk⟩ := c2
            have hv := vF_11 hM hj (by omega : k < N)
            have hs := sumF_one (f := fun v => if kF q val (k + 1) v = true then 1 else 0) (g := fun v => if kF q val k v = true then 1 else 0) 12 hv (fun i hi => by show (if kF q val (k + 1) i = true then _ else 0) = _; rw [kF_new hi])
            have hs1 : (if kF q val k (val k) = true then 1 else 0) = 0 := by rw [hnk]; rfl
            have hs2 : (if kF q val (k + 1) (val k) = true then 1 else 0) = 1 := if_pos (kF_hit hqk)
            have e1 : cn (k + 1) = cn k + 1 := by
              show sumF _ 12 = sumF _ 12 + 1
              have h3 : sumF (fun v => if kF q val (k + 1) v = true then 1 else 0) 12 + (if kF q val k (val k) = true then 1 else 0) = sumF (fun v => if kF q val k v = true then 1 else 0) 12 + (if kF q val (k + 1) (val k) = true then 1 else 0) := hs
              rw [hs1, hs2] at h3
              exact h3
            have e2 : R k &&& (63 ^^^ maskF (fun o => decide (fX4_shownBy mkd mpl (nI j) (nI o) = fX4_shownBy mkd mpl (nI j) (nI k))) N) = R (k + 1) := by
              show maskF _ N &&& (63 ^^^ maskF _ N) = _
              rw [mask_diff _ _ hN]
              refine maskF_congr N (fun t ht => ?_)
              rw [vF_eq hM hj (by omega) ht]
              show _ = (q t && !(kF q val k (val t) || (q k && decide (val k = val t))))
              rw [hqk]
              have : decide (val k = val t) = decide (val t = val k) := by
                by_cases c : val t = val k
                · rw [decide_eq_true c, decide_eq_true c.symm]
                · rw [decide_eq_false c, decide_eq_false (fun h => c h.symm)]
              rw [this]
              show ((q t && !kF q val k (val t)) && !decide (val t = val k)) = _
              cases q t <;> cases kF q val k (val t) <;> simp
            rw [alike_eq hA hj (by omega), diffN (maskF_64 hN) (maskF_64 hN), nI_1, e1]
            exact congrArg (fun z => (nI (cn k + 1), nI z)) e2
          · rw [if_pos (by rw [if_neg c2])]
            have hsame : kF q val (k + 1) = kF q val k := kF_same (by
              cases e : q k
              · exact .inl rfl
              · rw [e] at c2; simp at c2; exact .inr c2)
            show _ = (nI (sumF (fun v => if kF q val (k + 1) v = true then 1 else 0) 12), nI (maskF (fun t => q t && !kF q val (k + 1) (val t)) N))
            rw [hsame]
      rw [h N (Nat.le_refl _)]
      have hr : ∀ n0 k, k ≤ 11 → lp (fun k a => sX4_parts_39 mkd mpl N (nI j) (nI S) k a) (nI n0) k = nI (n0 + sumF (fun v => if gv mkd mpl N j v S ≠ 0 then 1 else 0) k) := by
        intro n0 k
        induction k with
        | zero => intro _; rfl
        | succ k ih =>
          intro hk
          rw [lp_succ, ih (by omega)]
          unfold sX4_parts_39
          rw [group_eq hN h64]
          have hg : gG mkd mpl N j (nI k) S < 64 := gG_lt hN
          by_cases c3 : gv mkd mpl N j k S = 0
          · rw [if_pos (show nI (gG mkd mpl N j (nI k) S) = 0 from congrArg nI c3), Int32.add_zero]
            show _ = nI (n0 + (sumF _ k + (if gv mkd mpl N j k S ≠ 0 then 1 else 0)))
            rw [if_neg (fun h => h c3)]; rfl
          · rw [if_neg (nI_ne0 (Nat.pos_of_ne_zero c3) (Nat.lt_trans hg (by decide))), nI_1]
            show _ = nI (n0 + (sumF _ k + (if gv mkd mpl N j k S ≠ 0 then 1 else 0)))
            rw [if_pos c3]; rfl
      have hmem : ∀ v, v < 11 → (kF q val N v = true ↔ gv mkd mpl N j v S ≠ 0) := by
        intro v hv11
        rw [kF_iff]
        constructor
        · rintro ⟨t, h1, h2, h3⟩ e
          have := maskF_testBit (fun t => S.testBit t && decide (fX4_shownBy mkd mpl (nI j) (nI t) = nI v)) N t
          have htj : t ≠ j := fun e => by
            have h3 : vF mkd mpl j t = v := h3
            unfold vF at h3; rw [if_pos e] at h3; omega
          have h4 := shV hM hj h1 htj
          have h5 : vF mkd mpl j t = v := h3
          unfold vF at h5
          rw [if_neg htj] at h5
          rw [show maskF (fun t => S.testBit t && decide (fX4_shownBy mkd mpl (nI j) (nI t) = nI v)) N = 0 from e, Nat.zero_testBit, decide_eq_true h1, Bool.true_and, decide_eq_true (by rw [h4.1, h5]), Bool.and_true] at this
          exact absurd (this.trans h2) (by decide)
        · intro hne
          obtain ⟨t, ht⟩ := Nat.exists_testBit_of_ne_zero hne
          have ht2 : (maskF (fun t => S.testBit t && decide (fX4_shownBy mkd mpl (nI j) (nI t) = nI v)) N).testBit t = true := ht
          rw [maskF_testBit, Bool.and_eq_true, Bool.and_eq_true, decide_eq_true_iff, decide_eq_true_iff] at ht2
          refine ⟨t, ht2.1, ht2.2.1, ?_⟩
          have htj : t ≠ j := fun e => by
            have h4 := ht2.2.2
            rw [e, sh4, if_pos rfl] at h4
            exact m9ne (by omega) h4
          show vF mkd mpl j t = v
          unfold vF
          rw [if_neg htj, ht2.2.2, nI_clamp (by omega)]
      have h11 : kF q val N 11 = true ↔ q j = true := by
        rw [kF_iff]
        constructor
        · rintro ⟨t, h1, h2, h3⟩
          have h3 : vF mkd mpl j t = 11 := h3
          by_cases e : t = j
          · rw [← e]; exact h2
          · unfold vF at h3; rw [if_neg e] at h3; have := (shV hM hj h1 e).2; omega
        · intro h2; exact ⟨j, hj, h2, by show vF mkd mpl j j = 11; unfold vF; rw [if_pos rfl]⟩
      have hsum : sumF (fun v => if kF q val N v = true then 1 else 0) 11 = sumF (fun v => if gv mkd mpl N j v S ≠ 0 then 1 else 0) 11 := sumF_congr 11 (fun v hv => by
        show (if kF q val N v = true then 1 else 0) = if gv mkd mpl N j v S ≠ 0 then 1 else 0
        by_cases c3 : gv mkd mpl N j v S = 0
        · rw [if_neg (fun h => (hmem v hv).mp h c3), if_neg (fun h => h c3)]
        · rw [if_pos ((hmem v hv).mpr c3), if_pos c3])
      have hcn : cn N = sumF (fun v => if gv mkd mpl N j v S ≠ 0 then 1 else 0) 11 + if q j = true then 1 else 0 := by
        show sumF _ 11 + (if kF q val N 11 = true then 1 else 0) = _
        rw [hsum]
        congr 1
        by_cases c3 : q j = true
        · rw [if_pos c3, if_pos (h11.mpr c3)]
        · rw [if_neg c3, if_neg (fun h => c3 (h11.mp h))]
      show nI (cn N) = _
      rw [hcn, hasN h64 (by omega)]
      unfold aX4_parts_39
      by_cases c3 : S.testBit j = true
      · rw [if_pos c3, if_pos (show q j = true from c3), if_pos (by decide)]
        rw [show (1 : Int32) = nI 1 from rfl, hr 1 11 (Nat.le_refl _), Nat.add_comm]
      · rw [if_neg c3, if_neg (show ¬ q j = true from c3), if_neg (by decide)]
        rw [show (0 : Int32) = nI 0 from rfl, hr 0 11 (Nat.le_refl _), Nat.add_comm]
end PT
theorem at5 {f : Nat → Int32} {j : Nat} (h : j < 5) : fX3_at 5 f (nI j) = f j := atN h (by decide)
theorem e_months {Pn : Nat} {an pn gr : Int32} {wt mwt : Nat → Int32} (hP : rP Pn pn wt mwt) (se : Int32) : fX3_months an pn gr wt Pn se = fX4_months an pn gr mwt Pn se := by
  obtain ⟨h1, h2, h3⟩ := hP
  unfold fX3_months fX4_months
  rw [noS_if]
  by_cases c : an = 0
  · rw [if_pos c, if_pos c]
  · rw [if_neg c, if_neg c, show fX1_pillars pn = pn from rfl]
    unfold fX3_isSetOf
    by_cases c1 : se < 0
    · rw [if_pos c1, if_pos c1, if_pos rfl]
    · rw [if_neg c1, if_neg c1]
      by_cases c2 : (1 <<< (pn &&& 31) : Int32) ≤ se
      · rw [if_pos c2, if_pos rfl, if_neg (Int32.not_lt.mpr c2)]
      · rw [if_neg c2, if_neg (by decide), if_pos (Int32.not_le.mp c2)]
        obtain ⟨S, hS, rfl⟩ := nI_of c1
        rw [h1, mP2 (by omega)] at c2
        have hp : 2 ^ Pn ≤ 64 := mP2b (by omega)
        rw [nI_leI (by omega) hS] at c2
        have hl : ∀ k, k ≤ Pn → lp (fun k a => sX3_months_31 wt (nI S) k a) 0 k = lp (fun k a => sX4_months_31 mwt (nI S) k a) 0 k := by
          intro k
          induction k with
          | zero => intro _; rfl
          | succ k ih =>
            intro hk
            rw [lp_succ, lp_succ, ih (by omega)]
            unfold sX3_months_31 sX4_months_31 fX1_weightOf
            rw [hasX (by omega) (by omega), hasN (by omega) (by omega), at5 (by omega), nI_clamp (by omega), h3 k (by omega)]
            by_cases c3 : S.testBit k = true
            · rw [if_pos c3, if_neg (by decide), if_pos rfl]
            · rw [if_neg c3, if_pos rfl, if_neg (by decide), Int32.add_zero]
        rw [hl Pn (Nat.le_refl _)]
        generalize lp (fun k a => sX4_months_31 mwt (nI S) k a) 0 Pn = su
        unfold aX3_months_31 aX4_months_31
        have hm : ∀ k, k ≤ 100 → (lq (fun k a => sX3_months_69 gr su k a) () k = .inl () ∧ lq (fun k a => sX4_months_69 gr su k a) 0 k = .inl (nI k)) ∨ ∃ r, lq (fun k a => sX3_months_69 gr su k a) () k = .inr r ∧ lq (fun k a => sX4_months_69 gr su k a) 0 k = .inr r := by
          intro k
          induction k with
          | zero => intro _; exact .inl ⟨rfl, rfl⟩
          | succ k ih =>
            intro hk
            rcases ih (by omega) with ⟨i1, i2⟩ | ⟨r, i1, i2⟩
            · rw [lq_inl i1, lq_inl i2]
              unfold sX3_months_69 sX4_months_69 fX1_growth
              by_cases c3 : gr * nI k < su
              · rw [if_pos c3, if_neg (Int32.not_le.mpr c3), nI_1]; exact .inl ⟨rfl, rfl⟩
              · rw [if_neg c3, if_pos (Int32.not_lt.mp c3)]
                unfold aX4_months_69
                rw [if_pos (show nI k ≤ 99 from (nI_leI (b := 99) (by omega) (by decide)).mpr (by omega))]
                exact .inr ⟨_, rfl, rfl⟩
            · rw [lq_inr i1, lq_inr i2]; exact .inr ⟨r, rfl, rfl⟩
        rcases hm 100 (Nat.le_refl _) with ⟨i1, i2⟩ | ⟨r, i1, i2⟩
        · rw [i1, i2]; rfl
        · rw [i1, i2]; rfl
theorem e_down {Pn : Nat} {an pn gr : Int32} {wt mwt : Nat → Int32} (hP : rP Pn pn wt mwt) (mo : Int32) : fX3_down an gr wt Pn mo = fX4_down an gr mwt Pn mo := by
  obtain ⟨h1, h2, h3⟩ := hP
  unfold fX3_down fX4_down
  rw [noS_if, show fX3_within mo 99 = fX4_within mo 0 99 from eW mo 99]
  by_cases c : an = 0
  · rw [if_pos c, if_pos c]
  · rw [if_neg c, if_neg c]
    by_cases c1 : fX4_within mo 0 99 = 0
    · rw [if_pos c1, if_pos c1]
    · rw [if_neg c1, if_neg c1]
      have hin : ∀ p, p < Pn → ∀ a b k, k ≤ Pn - (p + 1) → ∃ v w, lp (fun k a => sX3_down_59 gr wt mo p k a.1 a.2) (a, b) k = (v, w) ∧ lp (fun k a => sX4_down_46 gr mwt mo p k a.1 a.2) (b, a) k = (w, v) := by
        intro p hp a b k
        induction k with
        | zero => intro _; exact ⟨a, b, rfl, rfl⟩
        | succ k ih =>
          intro hk
          obtain ⟨v, w, i1, i2⟩ := ih (by omega)
          rw [lp_succ, lp_succ, i1, i2]
          dsimp only
          unfold sX3_down_59 sX4_down_46 fX1_weightOf fX1_growth
          rw [at5 (by omega), at5 (by omega), nI_clamp (by omega), nI_clamp (by omega), h3 p hp, h3 (p + 1 + k) (by omega)]
          by_cases c3 : gr * mo < wt p + wt (p + 1 + k)
          · rw [if_pos c3, if_pos c3]; exact ⟨_, _, rfl, rfl⟩
          · rw [if_neg c3, if_neg c3]
            by_cases c4 : wt p + wt (p + 1 + k) ≤ v
            · rw [if_pos c4, if_pos c4]; exact ⟨_, _, rfl, rfl⟩
            · rw [if_neg c4, if_neg c4]; exact ⟨_, _, rfl, rfl⟩
      have hout : ∀ k, k ≤ Pn → ∃ v w, lp (fun k a => sX3_down_41 gr wt Pn mo k a.1 a.2) (0, (-9)) k = (v, w) ∧ lp (fun k a => sX4_down_31 gr mwt Pn mo k a.1 a.2) ((-9), 0) k = (w, v) := by
        intro k
        induction k with
        | zero => intro _; exact ⟨0, -9, rfl, rfl⟩
        | succ k ih =>
          intro hk
          obtain ⟨v, w, i1, i2⟩ := ih (by omega)
          rw [lp_succ, lp_succ, i1, i2]
          dsimp only
          unfold sX3_down_41 sX4_down_31 aX3_down_59 aX4_down_46
          obtain ⟨v', w', j1, j2⟩ := hin k (by omega) v w (Pn - (k + 1)) (Nat.le_refl _)
          rw [j1, j2]
          exact ⟨_, _, rfl, rfl⟩
      obtain ⟨v, w, i1, i2⟩ := hout Pn (Nat.le_refl _)
      rw [i1, i2]; rfl
def updG {α : Type} (f : Nat → α) (j : Nat) (x : α) : Nat → α := fun i => if i = j then x else f i
theorem updG_s {α : Type} {f : Nat → α} {j : Nat} {x : α} : updG f j x j = x := if_pos rfl
theorem updG_n {α : Type} {f : Nat → α} {j i : Nat} {x : α} (h : i ≠ j) : updG f j x i = f i := if_neg h
theorem updG_same {α : Type} {f : Nat → α} {j : Nat} : updG f j (f j) = f := by
  funext i
  by_cases e : i = j
  · subst e; exact updG_s
  · exact updG_n e
theorem lp_congr {α : Type} {f g : Nat → α → α} {a : α} : ∀ n, (∀ k, k < n → ∀ x, f k x = g k x) → lp f a n = lp g a n := by
  intro n
  induction n with
  | zero => intro _; rfl
  | succ n ih => intro h; rw [lp_succ, lp_succ, ih (fun k hk => h k (by omega)), h n (by omega)]
theorem at60 {f : Nat → Int32} {j : Nat} (h : j < 60) : fX3_at 60 f (nI j) = f j := atN h (by decide)
theorem wr60 {f : Nat → Int32} {j : Nat} {v : Int32} (h : j < 60) : fX3_write 60 f (nI j) v = upd f j v := wrN h (by decide)
theorem shCases (sh : Int32) : (fX4_isSheet sh = 0 ∧ (sh < 0 ∨ nI 4 ≤ sh)) ∨ ∃ j, j < 4 ∧ sh = nI j ∧ ¬ fX4_isSheet sh = 0 ∧ ¬ sh < 0 ∧ ¬ nI 4 ≤ sh ∧ sh.toNatClampNeg = j := by
  unfold fX4_isSheet fX4_within
  by_cases c : sh < 0
  · rw [if_pos c]; exact .inl ⟨rfl, .inl c⟩
  · rw [if_neg c]
    obtain ⟨j, hj, rfl⟩ := nI_of c
    by_cases c1 : (3 : Int32) < nI j
    · rw [if_pos c1]
      have := (nI_ltI (a := 3) (by decide) hj).mp c1
      exact .inl ⟨rfl, .inr ((nI_leI (by decide) hj).mpr (by omega))⟩
    · rw [if_neg c1]
      have : ¬ 3 < j := fun h => c1 ((nI_ltI (a := 3) (by decide) hj).mpr h)
      refine .inr ⟨j, by omega, rfl, by decide, nI_pos hj, fun h => ?_, nI_clamp hj⟩
      have := (nI_leI (by decide) hj).mp h
      omega
theorem n10 : ¬ (1 : Int32) = 0 := by decide
theorem z00 : (0 : Int32) = 0 := rfl
theorem n1l : ¬ (1 : Int32) < 0 := by decide
section SHT
variable {la le : Nat → Int32} {ce : Nat → Nat → Int32} {so sl ces : Nat → Int32}
theorem rS_upd (hS : rS la le ce so sl ces) {j : Nat} (hj : j < 4) {la' le' : Int32} {ce' so' sl' ces' : Nat → Int32} (h1 : rS1 j la' le' ce' so' sl' ces') (h2 : ∀ i, i < 4 → i ≠ j → so' i = so i ∧ sl' i = sl i ∧ ∀ k, k < 60 → ces' (60 * i + k) = ces (60 * i + k)) : rS (updG la j la') (updG le j le') (updG ce j ce') so' sl' ces' := by
  intro i hi
  by_cases e : i = j
  · subst e; rw [updG_s, updG_s, updG_s]; exact h1
  · rw [updG_n e, updG_n e, updG_n e]
    obtain ⟨e1, e2, e3⟩ := h2 i hi e
    obtain ⟨⟨L, hL, eL⟩, h⟩ := hS i hi
    refine ⟨⟨L, hL, e2.trans eL⟩, ?_⟩
    rcases h with ⟨g1, g2, g3⟩ | ⟨a, L', g1, g2, g3, g4, g5, g6, g7⟩
    · exact .inl ⟨g1, e1.trans g2, g3⟩
    · exact .inr ⟨a, L', g1, g2, g3, e1.trans g4, g5, e2.trans g6, fun k hk => (e3 k (by omega)).trans (g7 k hk)⟩
theorem no_la {a : Nat} (ha : a ≤ 2) : fX2_isNothing (nI a) = 0 ∧ ¬ nI a = (-9 : Int32) := by
  have h : ∀ a : Fin 3, fX2_isNothing (nI a.val) = 0 ∧ ¬ nI a.val = (-9 : Int32) := by decide
  exact h ⟨a, by omega⟩
theorem ag_eq {j : Nat} (hj : j < 4) {la0 le0 : Int32} {ce0 : Nat → Int32} (h : rS1 j la0 le0 ce0 so sl ces) (ln i nn : Int32) : fX4_against so sl (nI j) ln i nn = if fX2_faultAs la0 ln = 0 then (if 0 ≤ nn then (if fX2_hasCells le0 i nn = 0 then 3 else 0) else 4) else fX2_faultAs la0 ln := by
  unfold fX4_against
  rw [nI_clamp (by omega)]
  rcases h.2 with ⟨g1, g2, g3⟩ | ⟨a, L, g1, g2, g3, g4, g5, g6, g7⟩
  · rw [g1, g2, if_pos rfl]; rfl
  · rw [g3, g4, g6, g5, if_neg (no_la g1).2]
    unfold fX2_faultAs
    rw [if_pos (no_la g1).1]
    by_cases c : nI a = ln
    · rw [if_pos c, if_pos c, if_pos rfl]
      by_cases c1 : 0 ≤ nn
      · rw [if_pos c1, if_pos c1]
        unfold fX2_hasCells fX3_within
        by_cases c2 : i < 0
        · rw [if_pos c2, if_pos c2, if_pos z00, if_pos z00]
        · rw [if_neg c2, if_neg c2]
          by_cases c3 : nI L < i
          · rw [if_pos c3, if_pos c3, if_pos z00, if_pos z00]
          · rw [if_neg c3, if_neg c3, if_neg n10, if_neg (Int32.not_lt.mpr c1)]
            by_cases c4 : nn ≤ nI L - i
            · rw [if_pos c4, if_neg (Int32.not_lt.mpr c4), if_neg n10, if_neg n10]
            · rw [if_neg c4, if_pos (Int32.not_le.mp c4), if_pos z00, if_pos z00]
      · rw [if_neg c1, if_neg c1]
    · rw [if_neg c, if_neg c, if_neg (by decide)]
theorem renew_at {ce0 : Nat → Int32} : ∀ n, n ≤ 60 → ∀ i, i < 60 → lp (fun k a => sX2_renew_12 k a) ce0 n i = if i < n then 0 else ce0 i := by
  intro n
  induction n with
  | zero => intro _ i _; rfl
  | succ n ih =>
    intro hn i hi
    rw [lp_succ]
    unfold sX2_renew_12
    rw [wr60 (by omega)]
    by_cases e : i = n
    · subst e; rw [pk_us, if_pos (by omega)]
    · rw [pk_un e]
      have := ih (by omega) i hi
      unfold sX2_renew_12 at this
      rw [this]
      by_cases c : i < n
      · rw [if_pos c, if_pos (by omega)]
      · rw [if_neg c, if_neg (by omega)]
theorem zero_at {j : Nat} (hj : j < 4) : ∀ n, n ≤ 60 → ∀ x, lp (fun k a => sX4_sheet_57 (nI j) k a) ces n x = if 60 * j ≤ x ∧ x < 60 * j + n then 0 else ces x := by
  intro n
  induction n with
  | zero => intro _ x; rw [if_neg (by omega)]; rfl
  | succ n ih =>
    intro hn x
    rw [lp_succ]
    have e : ∀ A, sX4_sheet_57 (nI j) n A = upd A (60 * j + n) 0 := fun A => by
      unfold sX4_sheet_57
      rw [show (60 : Int32) = nI 60 from rfl, pk_mul, nI_add, nI_clamp (by omega)]
    rw [e]
    by_cases e : x = 60 * j + n
    · subst e; rw [pk_us, if_pos (by omega)]
    · rw [pk_un e, ih (by omega) x]
      by_cases c : 60 * j ≤ x ∧ x < 60 * j + n
      · rw [if_pos c, if_pos (by omega)]
      · rw [if_neg c, if_neg (by omega)]
theorem sort_eq (ln : Int32) : fX4_isSort ln = fX3_within ln 2 := rfl
theorem e_sheet (hS : rS la le ce so sl ces) {j : Nat} (hj : j < 4) (ln nn : Int32) : (fX3_sheet_s (la j) (le j) (ce j) ln nn).1 = (fX4_sheet so sl ces (nI j) ln nn).1 ∧ (fX3_sheet_s (la j) (le j) (ce j) ln nn).2.1 = (fX4_sheet so sl ces (nI j) ln nn).2.1 ∧ rS (updG la j (fX3_sheet_s (la j) (le j) (ce j) ln nn).2.2.1) (updG le j (fX3_sheet_s (la j) (le j) (ce j) ln nn).2.2.2.1) (updG ce j (fX3_sheet_s (la j) (le j) (ce j) ln nn).2.2.2.2) (fX4_sheet so sl ces (nI j) ln nn).2.2.1 (fX4_sheet so sl ces (nI j) ln nn).2.2.2.1 (fX4_sheet so sl ces (nI j) ln nn).2.2.2.2 := by
  have hsh : ¬ fX4_isSheet (nI j) = 0 := by
    rcases shCases (nI j) with ⟨-, h | h⟩ | ⟨i, -, -, h, -⟩
    · exact absurd h (nI_pos (by omega))
    · exact absurd ((nI_leI (by decide) (by omega)).mp h) (by omega)
    · exact h
  have same : rS (updG la j (la j)) (updG le j (le j)) (updG ce j (ce j)) so sl ces := by rw [updG_same, updG_same, updG_same]; exact hS
  unfold fX3_sheet_s fX4_sheet
  rw [if_neg hsh, sort_eq]
  by_cases c : fX3_within ln 2 = 0
  · rw [if_pos c, if_pos c]; exact ⟨rfl, rfl, same⟩
  · rw [if_neg c, if_neg c]
    by_cases c1 : nn ≤ 60
    · rw [if_pos c1, if_pos c1]
      by_cases c2 : 0 ≤ nn
      · rw [if_pos c2, if_pos c2]
        refine ⟨rfl, rfl, ?_⟩
        obtain ⟨e1, e2⟩ := kRange c2 c1
        obtain ⟨e3, e4⟩ := kWithin 2 (by decide) c
        generalize nn.toNatClampNeg = n at e1 e2
        generalize ln.toNatClampNeg = a at e3 e4
        subst e1; subst e3
        show rS (updG la j (nI a)) (updG le j (nI n)) (updG ce j (lp (fun k a => sX2_renew_12 k a) (ce j) n)) (upd so (nI j).toNatClampNeg (nI a)) (upd sl (nI j).toNatClampNeg (nI n)) (lp (fun k a => sX4_sheet_57 (nI j) k a) ces 60)
        rw [nI_clamp (by omega)]
        refine rS_upd hS hj ?_ (fun i hi hij => ⟨pk_un hij, pk_un hij, fun k hk => ?_⟩)
        · refine ⟨⟨n, e2, pk_us⟩, .inr ⟨a, n, e4, e2, rfl, pk_us, rfl, pk_us, fun i hi => ?_⟩⟩
          rw [zero_at hj 60 (Nat.le_refl _), if_pos (by omega), renew_at n e2 i (by omega), if_pos hi]
        · rw [zero_at hj 60 (Nat.le_refl _), if_neg (by omega)]
      · rw [if_neg c2, if_neg c2]; exact ⟨rfl, rfl, same⟩
    · rw [if_neg c1, if_neg c1]; exact ⟨rfl, rfl, same⟩
theorem isSh {j : Nat} (hj : j < 4) : ¬ fX4_isSheet (nI j) = 0 := by
  rcases shCases (nI j) with ⟨-, h | h⟩ | ⟨i, -, -, h, -⟩
  · exact absurd h (nI_pos (by omega))
  · exact absurd ((nI_leI (by decide) (by omega)).mp h) (by omega)
  · exact h
theorem e_lose (hS : rS la le ce so sl ces) {j : Nat} (hj : j < 4) : (fX3_lose_s (la j) (le j)).1 = (fX4_lose so (nI j)).1 ∧ rS (updG la j (fX3_lose_s (la j) (le j)).2.1) (updG le j (fX3_lose_s (la j) (le j)).2.2) ce (fX4_lose so (nI j)).2 sl ces := by
  have h := hS j hj
  have e2 : rS (updG la j (-1)) (updG le j 0) ce (upd so j (-9)) sl ces := by
    have := rS_upd (la' := -1) (le' := 0) (ce' := ce j) (so' := upd so j (-9)) (sl' := sl) (ces' := ces) hS hj ⟨h.1, .inl ⟨rfl, pk_us, rfl⟩⟩ (fun i _ hij => ⟨pk_un hij, rfl, fun _ _ => rfl⟩)
    rw [updG_same] at this
    exact this
  unfold fX3_lose_s fX4_lose
  rw [if_neg (isSh hj), nI_clamp (by omega)]
  rcases h.2 with ⟨g1, g2, g3⟩ | ⟨a, L, g1, g2, g3, g4, g5, g6, g7⟩
  · rw [g1, g3, g2, if_pos rfl, if_neg (by decide)]
    exact ⟨rfl, e2⟩
  · rw [g3, g4, if_pos (no_la g1).1, if_neg (no_la g1).2]
    exact ⟨rfl, e2⟩
theorem has1 {L : Nat} (hL : L ≤ 60) (i : Int32) : (fX2_hasCells (nI L) i 1 = 0 ∧ fX4_within i 0 (nI L - 1) = 0) ∨ ∃ x, x < L ∧ i = nI x ∧ ¬ fX2_hasCells (nI L) i 1 = 0 ∧ ¬ fX4_within i 0 (nI L - 1) = 0 := by
  unfold fX2_hasCells fX3_within fX4_within
  by_cases c : i < 0
  · rw [if_pos c, if_pos c, if_pos rfl]; exact .inl ⟨rfl, rfl⟩
  · rw [if_neg c, if_neg c]
    obtain ⟨x, hx, rfl⟩ := nI_of c
    rcases Nat.eq_zero_or_pos L with h0 | h0
    · subst h0
      have hm : nI 0 - 1 < nI x := Int32.lt_of_lt_of_le (by decide : nI 0 - 1 < 0) (nI_pos' hx)
      rw [if_pos hm]
      refine .inl ⟨?_, rfl⟩
      by_cases c1 : nI 0 < nI x
      · rw [if_pos c1, if_pos rfl]
      · rw [if_neg c1]
        have : ¬ 0 < x := fun h => c1 ((nI_ltI (by decide) hx).mpr h)
        have : x = 0 := by omega
        subst this
        decide
    · obtain ⟨d, rfl⟩ : ∃ d, L = d + 1 := ⟨L - 1, by omega⟩
      rw [nI_pred]
      by_cases c1 : nI d < nI x
      · have h1 := (nI_ltI (by omega) hx).mp c1
        rw [if_pos c1]
        refine .inl ⟨?_, rfl⟩
        by_cases c2 : nI (d + 1) < nI x
        · rw [if_pos c2, if_pos rfl]
        · have : ¬ d + 1 < x := fun h => c2 ((nI_ltI (by omega) hx).mpr h)
          have : x = d + 1 := by omega
          subst this
          rw [if_neg c2, if_neg n10, if_neg n1l, pk_sub (Nat.le_refl _), Nat.sub_self, if_pos (show nI 0 < 1 by decide), if_pos z00]
      · have h1 : ¬ d < x := fun h => c1 ((nI_ltI (by omega) hx).mpr h)
        have c2 : ¬ nI (d + 1) < nI x := fun h => by have := (nI_ltI (by omega) hx).mp h; omega
        have c3 : ¬ nI (d + 1) - nI x < 1 := fun h => by
          rw [pk_sub (by omega)] at h
          have := (nI_ltI (b := 1) (by omega) (by decide)).mp h
          omega
        refine .inr ⟨x, by omega, rfl, ?_, ?_⟩
        · rw [if_neg c2, if_neg n10, if_neg n1l, if_neg c3, if_neg n10]; decide
        · rw [if_neg c1]; decide
theorem lane0 {a : Nat} (ha : a ≤ 2) (v : Int32) {α : Type} (f : Int32 → α) : (if nI a = 0 then f v.toInt8.toInt32 else if nI a = 1 then f v.toInt16.toInt32 else f v) = f (fX2_cut (nI a) v) := by
  unfold fX2_cut
  split
  · rfl
  · split <;> rfl
theorem e_put (hS : rS la le ce so sl ces) {j : Nat} (hj : j < 4) (i v : Int32) : (fX3_put_s (la j) (le j) (ce j) i v).1 = (fX4_put so sl ces (nI j) i v).1 ∧ (fX3_put_s (la j) (le j) (ce j) i v).2.1 = (fX4_put so sl ces (nI j) i v).2.1 ∧ rS la le (updG ce j (fX3_put_s (la j) (le j) (ce j) i v).2.2) so sl (fX4_put so sl ces (nI j) i v).2.2 := by
  have h := hS j hj
  have same : rS la le (updG ce j (ce j)) so sl ces := by rw [updG_same]; exact hS
  unfold fX3_put_s fX4_put
  rw [if_neg (isSh hj), nI_clamp (by omega)]
  rcases h.2 with ⟨g1, g2, g3⟩ | ⟨a, L, g1, g2, g3, g4, g5, g6, g7⟩
  · rw [g1, g3, g2, if_pos rfl, if_neg (by decide)]
    exact ⟨rfl, rfl, same⟩
  · rw [g3, g4, g5, g6, if_pos (no_la g1).1, if_neg (no_la g1).2]
    rcases has1 g2 i with ⟨c1, c2⟩ | ⟨x, hx, rfl, c1, c2⟩
    · rw [if_pos c1, if_pos c2]; exact ⟨rfl, rfl, same⟩
    · rw [if_neg c1, if_neg c2, lane0 g1 v (fun z => ((1 : Int32), (0 : Int32), upd ces ((60 * nI j) + nI x).toNatClampNeg z))]
      refine ⟨rfl, rfl, ?_⟩
      dsimp only
      unfold fX2_set
      rw [wr60 (by omega), show (60 : Int32) = nI 60 from rfl, pk_mul, nI_add, nI_clamp (by omega)]
      have := rS_upd (la' := la j) (le' := le j) (ce' := upd (ce j) x (fX2_cut (nI a) v)) (so' := so) (sl' := sl) (ces' := upd ces (60 * j + x) (fX2_cut (nI a) v)) hS hj (by
        rw [g3, g5]
        refine ⟨h.1, .inr ⟨a, L, g1, g2, rfl, g4, rfl, g6, fun k hk => ?_⟩⟩
        by_cases e : k = x
        · subst e; rw [pk_us, pk_us]
        · rw [pk_un e, pk_un (by omega)]; exact g7 k hk) (fun i hi hij => ⟨rfl, rfl, fun k hk => pk_un (by omega)⟩)
      rw [updG_same, updG_same] at this
      exact this
theorem e_cell (hS : rS la le ce so sl ces) {j : Nat} (hj : j < 4) (i ln : Int32) : fX3_cell_s (la j) (le j) (ce j) i ln = fX4_cell so sl ces (nI j) i ln := by
  have h := hS j hj
  unfold fX3_cell_s fX4_cell
  rw [if_neg (isSh hj), sort_eq, nI_clamp (by omega)]
  by_cases c : fX3_within ln 2 = 0
  · rw [if_pos c, if_pos c]
  · rw [if_neg c, if_neg c]
    unfold fX2_faultAs
    rcases h.2 with ⟨g1, g2, g3⟩ | ⟨a, L, g1, g2, g3, g4, g5, g6, g7⟩
    · rw [g1, g3, g2, if_pos rfl]; rfl
    · rw [g3, g4, g5, g6, if_pos (no_la g1).1, if_neg (no_la g1).2]
      by_cases c1 : nI a = ln
      · rw [if_pos c1, if_pos c1, if_pos rfl]
        rcases has1 g2 i with ⟨c1, c2⟩ | ⟨x, hx, rfl, c1, c2⟩
        · rw [if_pos c1, if_pos c2]
        · rw [if_neg c1, if_neg c2]
          unfold fX2_get
          rw [at60 (by omega), show (60 : Int32) = nI 60 from rfl, pk_mul, nI_add, nI_clamp (by omega), g7 x hx]
      · rw [if_neg c1, if_neg c1, if_neg (by decide)]
end SHT
section CPY
variable {la le : Nat → Int32} {ce : Nat → Nat → Int32} {so sl ces : Nat → Int32}
/-- cells of a sheet and those of the reference go together, all others as they were -/
def cR (o L : Nat) (ces A B : Nat → Int32) : Prop := (∀ x, x < L → B (60 * o + x) = A x) ∧ ∀ y, (y < 60 * o ∨ 60 * o + 60 ≤ y) → B y = ces y
theorem cR_upd {o L d : Nat} {v : Int32} {A B : Nat → Int32} (h : cR o L ces A B) (hL : L ≤ 60) (hd : d < L) : cR o L ces (upd A d v) (upd B (60 * o + d) v) := by
  refine ⟨fun x hx => ?_, fun y hy => ?_⟩
  · by_cases e : x = d
    · subst e; rw [pk_us, pk_us]
    · rw [pk_un e, pk_un (by omega)]; exact h.1 x hx
  · rw [pk_un (by omega)]; exact h.2 y hy
theorem cpS {o j Lo Lj : Nat} {src A0 B0 : Nat → Int32} {f g : Nat → Nat} (hoj : o ≠ j) (h0 : cR o Lo ces A0 B0) (hLo : Lo ≤ 60) (hLj : Lj ≤ 60) (hs : ∀ x, x < Lj → ces (60 * j + x) = src x) : ∀ n, (∀ k, k < n → f k < Lo ∧ g k < Lj) → cR o Lo ces (lp (fun k a => upd a (f k) (src (g k))) A0 n) (lp (fun k b => upd b (60 * o + f k) (b (60 * j + g k))) B0 n) := by
  intro n
  induction n with
  | zero => intro _; exact h0
  | succ n ih =>
    intro h
    have i := ih (fun k hk => h k (by omega))
    obtain ⟨h1, h2⟩ := h n (by omega)
    rw [lp_succ, lp_succ]
    have e : lp (fun k b => upd b (60 * o + f k) (b (60 * j + g k))) B0 n (60 * j + g n) = src (g n) := by
      rw [i.2 _ (by omega)]; exact hs _ h2
    rw [e]
    exact cR_upd i hLo h1
theorem cpA {o Lo : Nat} {A0 B0 : Nat → Int32} {f g : Nat → Nat} (h0 : cR o Lo ces A0 B0) (hLo : Lo ≤ 60) : ∀ n, (∀ k, k < n → f k < Lo ∧ g k < Lo) → cR o Lo ces (lp (fun k a => upd a (f k) (a (g k))) A0 n) (lp (fun k b => upd b (60 * o + f k) (b (60 * o + g k))) B0 n) := by
  intro n
  induction n with
  | zero => intro _; exact h0
  | succ n ih =>
    intro h
    have i := ih (fun k hk => h k (by omega))
    obtain ⟨h1, h2⟩ := h n (by omega)
    rw [lp_succ, lp_succ, i.1 _ h2]
    exact cR_upd i hLo h1
theorem rS_cell (hS : rS la le ce so sl ces) {o a L : Nat} (ho : o < 4) {A B : Nat → Int32} (g1 : a ≤ 2) (g2 : L ≤ 60) (g3 : la o = nI a) (g4 : so o = nI a) (g5 : le o = nI L) (g6 : sl o = nI L) (h : cR o L ces A B) : rS la le (updG ce o A) so sl B := by
  have := rS_upd (la' := la o) (le' := le o) (ce' := A) (so' := so) (sl' := sl) (ces' := B) hS ho ⟨⟨L, g2, g6⟩, .inr ⟨a, L, g1, g2, g3, g4, g5, g6, h.1⟩⟩ (fun i hi hio => ⟨rfl, rfl, fun k hk => h.2 _ (by omega)⟩)
  rw [updG_same, updG_same] at this
  exact this
theorem tk_eq {ceo cej : Nat → Int32} {n d s : Nat} (h1 : d + n ≤ 60) (h2 : s + n ≤ 60) : fX2_takeCells ceo cej n (nI d) (nI s) = if d ≤ s then lp (fun k a => upd a (d + k) (cej (s + k))) ceo n else lp (fun k a => upd a (d + (n - k - 1)) (cej (s + (n - k - 1)))) ceo n := by
  unfold fX2_takeCells aX2_takeCells_47 aX2_takeCells_11
  by_cases c : d ≤ s
  · rw [if_pos c, if_pos ((nI_leI (by omega) (by omega)).mpr c)]
    refine lp_congr n (fun k hk x => ?_)
    unfold sX2_takeCells_47 fX2_get
    rw [nI_add, nI_add, wr60 (by omega), at60 (by omega)]
  · rw [if_neg c, if_neg (fun h => c ((nI_leI (by omega) (by omega)).mp h))]
    refine lp_congr n (fun k hk x => ?_)
    unfold sX2_takeCells_11 fX2_get
    obtain ⟨m, hm⟩ : ∃ m, n - k = m + 1 := ⟨n - k - 1, by omega⟩
    rw [hm, nI_pred, nI_add, nI_add, wr60 (by omega), at60 (by omega), Nat.add_sub_cancel]
theorem tka_eq {ceo : Nat → Int32} {n d s : Nat} (h1 : d + n ≤ 60) (h2 : s + n ≤ 60) : fX2_takeCells_a ceo n (nI d) (nI s) = if d ≤ s then lp (fun k a => upd a (d + k) (a (s + k))) ceo n else lp (fun k a => upd a (d + (n - k - 1)) (a (s + (n - k - 1)))) ceo n := by
  unfold fX2_takeCells_a aX2_takeCells_a_47 aX2_takeCells_a_11
  by_cases c : d ≤ s
  · rw [if_pos c, if_pos ((nI_leI (by omega) (by omega)).mpr c)]
    refine lp_congr n (fun k hk x => ?_)
    unfold sX2_takeCells_a_47 fX2_get
    rw [nI_add, nI_add, wr60 (by omega), at60 (by omega)]
  · rw [if_neg c, if_neg (fun h => c ((nI_leI (by omega) (by omega)).mp h))]
    refine lp_congr n (fun k hk x => ?_)
    unfold sX2_takeCells_a_11 fX2_get
    obtain ⟨m, hm⟩ : ∃ m, n - k = m + 1 := ⟨n - k - 1, by omega⟩
    rw [hm, nI_pred, nI_add, nI_add, wr60 (by omega), at60 (by omega), Nat.add_sub_cancel]
theorem cpR_eq {j o n d s : Nat} (hj : j < 4) (ho : o < 4) (h1 : d + n ≤ 60) (h2 : s + n ≤ 60) : (if (nI d : Int32) ≤ nI s then (aX4_copy_166 (nI n) (lp (fun k a => sX4_copy_166 (nI j) (nI s) (nI o) (nI d) k a) ces (nI n).toNatClampNeg)) else (aX4_copy_166_1 (nI n) (lp (fun k a => sX4_copy_166_1 (nI j) (nI s) (nI o) (nI d) (nI n) k a) ces (nI n).toNatClampNeg))) = (nI n, 0, if d ≤ s then lp (fun k b => upd b (60 * o + (d + k)) (b (60 * j + (s + k)))) ces n else lp (fun k b => upd b (60 * o + (d + (n - k - 1))) (b (60 * j + (s + (n - k - 1))))) ces n) := by
  unfold aX4_copy_166 aX4_copy_166_1
  rw [nI_clamp (by omega)]
  by_cases c : d ≤ s
  · rw [if_pos c, if_pos ((nI_leI (by omega) (by omega)).mpr c)]
    refine congrArg (fun z => (nI n, (0 : Int32), z)) (lp_congr n (fun k hk x => ?_))
    unfold sX4_copy_166
    rw [show (60 : Int32) = nI 60 from rfl, pk_mul, pk_mul, nI_add, nI_add, nI_add, nI_add, nI_clamp (by omega), nI_clamp (by omega), Nat.add_assoc, Nat.add_assoc]
  · rw [if_neg c, if_neg (fun h => c ((nI_leI (by omega) (by omega)).mp h))]
    refine congrArg (fun z => (nI n, (0 : Int32), z)) (lp_congr n (fun k hk x => ?_))
    unfold sX4_copy_166_1
    rw [show (60 : Int32) = nI 60 from rfl, show nI n - 1 - nI k = nI (n - k - 1) by rw [show (1 : Int32) = nI 1 from rfl, pk_sub (by omega), pk_sub (by omega)]; congr 1; omega, pk_mul, pk_mul, nI_add, nI_add, nI_add, nI_add, nI_clamp (by omega), nI_clamp (by omega), Nat.add_assoc, Nat.add_assoc]
/-- the reference's look at places and lengths, and the class's -/
theorem cpIx {Lj Lo : Nat} (h1 : Lj ≤ 60) (h2 : Lo ≤ 60) (i j nn : Int32) {α : Type} (bad good : α) : (if fX2_hasCells (nI Lj) i nn = 0 then bad else if fX2_hasCells (nI Lo) j nn = 0 then bad else good) = (if i < 0 then bad else if j < 0 then bad else if nn < 0 then bad else if nI Lj < i then bad else if nI Lo < j then bad else if nI Lj - i < nn then bad else if nn ≤ nI Lo - j then good else bad) := by
  unfold fX2_hasCells fX3_within
  by_cases c1 : i < 0
  · rw [if_pos c1, if_pos c1, if_pos z00, if_pos z00]
  · rw [if_neg c1, if_neg c1]
    by_cases c2 : nI Lj < i
    · rw [if_pos c2, if_pos z00, if_pos z00, if_pos c2]
      split
      · rfl
      · split <;> rfl
    · rw [if_neg c2, if_neg n10, if_neg c2]
      by_cases c3 : nn < 0
      · rw [if_pos c3, if_pos z00, if_pos z00, if_pos c3]
        split <;> rfl
      · rw [if_neg c3, if_neg c3]
        by_cases c4 : nI Lj - i < nn
        · rw [if_pos c4, if_pos z00, if_pos z00, if_pos c4]
          split
          · rfl
          · split <;> rfl
        · rw [if_neg c4, if_neg n10, if_neg n10, if_neg c4]
          by_cases c5 : j < 0
          · rw [if_pos c5, if_pos c5, if_pos z00, if_pos z00]
          · rw [if_neg c5, if_neg c5]
            by_cases c6 : nI Lo < j
            · rw [if_pos c6, if_pos c6, if_pos z00, if_pos z00]; split <;> rfl
            · rw [if_neg c6, if_neg c6, if_neg n10, if_neg c3]
              by_cases c7 : nn ≤ nI Lo - j
              · rw [if_neg (Int32.not_lt.mpr c7), if_pos c7, if_neg n10, if_neg n10]
              · rw [if_pos (Int32.not_le.mp c7), if_neg c7, if_pos z00, if_pos z00]
theorem like_eq (x y : Int32) {α : Type} (a b : α) : (if fX2_isLikeLane x y = 0 then a else b) = if x = y then b else a := by
  unfold fX2_isLikeLane
  by_cases c : x = y
  · rw [if_pos c, if_pos c, if_neg n10]
  · rw [if_neg c, if_neg c, if_pos z00]
theorem e_copy (hS : rS la le ce so sl ces) {j o : Nat} (hj : j < 4) (ho : o < 4) (hjo : o ≠ j) (i d nn : Int32) : (fX3_copy_s (la j) (le j) (ce j) (la o) (le o) (ce o) i d nn).1 = (fX4_copy so sl ces (nI j) i (nI o) d nn).1 ∧ (fX3_copy_s (la j) (le j) (ce j) (la o) (le o) (ce o) i d nn).2.1 = (fX4_copy so sl ces (nI j) i (nI o) d nn).2.1 ∧ rS la le (updG ce o (fX3_copy_s (la j) (le j) (ce j) (la o) (le o) (ce o) i d nn).2.2) so sl (fX4_copy so sl ces (nI j) i (nI o) d nn).2.2 := by
  have same : rS la le (updG ce o (ce o)) so sl ces := by rw [updG_same]; exact hS
  unfold fX3_copy_s fX4_copy
  rw [if_neg (isSh hj), if_neg (isSh ho), nI_clamp (by omega), nI_clamp (by omega)]
  rcases (hS j hj).2 with ⟨g1, g2, g3⟩ | ⟨a, L, g1, g2, g3, g4, g5, g6, g7⟩
  · rw [g1, g2, if_pos rfl, if_neg (by decide)]
    exact ⟨rfl, rfl, same⟩
  · rw [g3, g4, g5, g6, if_pos (no_la g1).1, if_neg (no_la g1).2]
    rcases (hS o ho).2 with ⟨k1, k2, k3⟩ | ⟨b, M, k1, k2, k3, k4, k5, k6, k7⟩
    · rw [k1, k2, if_pos rfl, if_neg (by decide)]
      exact ⟨rfl, rfl, same⟩
    · rw [k3, k4, k5, k6, if_pos (no_la k1).1, if_neg (no_la k1).2, like_eq]
      by_cases c : nI a = nI b
      · rw [if_pos c, if_pos c, cpIx g2 k2]
        by_cases c1 : i < 0
        · rw [if_pos c1, if_pos c1]; exact ⟨rfl, rfl, same⟩
        · rw [if_neg c1, if_neg c1]
          by_cases c2 : d < 0
          · rw [if_pos c2, if_pos c2]; exact ⟨rfl, rfl, same⟩
          · rw [if_neg c2, if_neg c2]
            by_cases c3 : nn < 0
            · rw [if_pos c3, if_pos c3]; exact ⟨rfl, rfl, same⟩
            · rw [if_neg c3, if_neg c3]
              by_cases c4 : nI L < i
              · rw [if_pos c4, if_pos c4]; exact ⟨rfl, rfl, same⟩
              · rw [if_neg c4, if_neg c4]
                by_cases c5 : nI M < d
                · rw [if_pos c5, if_pos c5]; exact ⟨rfl, rfl, same⟩
                · rw [if_neg c5, if_neg c5]
                  by_cases c6 : nI L - i < nn
                  · rw [if_pos c6, if_pos c6]; exact ⟨rfl, rfl, same⟩
                  · rw [if_neg c6, if_neg c6]
                    by_cases c7 : nn ≤ nI M - d
                    · rw [if_pos c7, if_pos c7]
                      obtain ⟨s, hs, rfl⟩ := nI_of c1
                      obtain ⟨t, ht, rfl⟩ := nI_of c2
                      obtain ⟨n, hn, rfl⟩ := nI_of c3
                      rw [nI_ltI (by omega) hs] at c4
                      rw [nI_ltI (by omega) ht] at c5
                      rw [pk_sub (by omega), nI_ltI (by omega) hn] at c6
                      rw [pk_sub (by omega), nI_leI hn (by omega)] at c7
                      rw [cpR_eq hj ho (by omega) (by omega)]
                      refine ⟨rfl, rfl, ?_⟩
                      dsimp only
                      rw [nI_clamp hn, tk_eq (by omega) (by omega)]
                      refine rS_cell hS ho k1 k2 k3 k4 k5 k6 ?_
                      have h0 : cR o M ces (ce o) ces := ⟨k7, fun _ _ => rfl⟩
                      by_cases c8 : t ≤ s
                      · rw [if_pos c8, if_pos c8]
                        exact cpS (f := fun k => t + k) (g := fun k => s + k) hjo h0 k2 g2 g7 n (fun k hk => ⟨by omega, by omega⟩)
                      · rw [if_neg c8, if_neg c8]
                        exact cpS (f := fun k => t + (n - k - 1)) (g := fun k => s + (n - k - 1)) hjo h0 k2 g2 g7 n (fun k hk => ⟨by omega, by omega⟩)
                    · rw [if_neg c7, if_neg c7]; exact ⟨rfl, rfl, same⟩
      · rw [if_neg c, if_neg c]; exact ⟨rfl, rfl, same⟩
theorem e_copy_a (hS : rS la le ce so sl ces) {j : Nat} (hj : j < 4) (i d nn : Int32) : (fX3_copy_a (la j) (le j) (ce j) i d nn).1 = (fX4_copy so sl ces (nI j) i (nI j) d nn).1 ∧ (fX3_copy_a (la j) (le j) (ce j) i d nn).2.1 = (fX4_copy so sl ces (nI j) i (nI j) d nn).2.1 ∧ rS la le (updG ce j (fX3_copy_a (la j) (le j) (ce j) i d nn).2.2) so sl (fX4_copy so sl ces (nI j) i (nI j) d nn).2.2 := by
  have same : rS la le (updG ce j (ce j)) so sl ces := by rw [updG_same]; exact hS
  unfold fX3_copy_a fX4_copy
  rw [if_neg (isSh hj), if_neg (isSh hj), nI_clamp (by omega)]
  rcases (hS j hj).2 with ⟨g1, g2, g3⟩ | ⟨a, L, g1, g2, g3, g4, g5, g6, g7⟩
  · rw [g1, g2, if_pos rfl, if_neg (by decide)]
    exact ⟨rfl, rfl, same⟩
  · rw [g3, g4, g5, g6, if_pos (no_la g1).1, if_neg (no_la g1).2, if_neg (no_la g1).2, show fX2_isLikeLane_a (nI a) = fX2_isLikeLane (nI a) (nI a) from rfl, like_eq, if_pos rfl, if_pos rfl, cpIx g2 g2]
    by_cases c1 : i < 0
    · rw [if_pos c1, if_pos c1]; exact ⟨rfl, rfl, same⟩
    · rw [if_neg c1, if_neg c1]
      by_cases c2 : d < 0
      · rw [if_pos c2, if_pos c2]; exact ⟨rfl, rfl, same⟩
      · rw [if_neg c2, if_neg c2]
        by_cases c3 : nn < 0
        · rw [if_pos c3, if_pos c3]; exact ⟨rfl, rfl, same⟩
        · rw [if_neg c3, if_neg c3]
          by_cases c4 : nI L < i
          · rw [if_pos c4, if_pos c4]; exact ⟨rfl, rfl, same⟩
          · rw [if_neg c4, if_neg c4]
            by_cases c5 : nI L < d
            · rw [if_pos c5, if_pos c5]; exact ⟨rfl, rfl, same⟩
            · rw [if_neg c5, if_neg c5]
              by_cases c6 : nI L - i < nn
              · rw [if_pos c6, if_pos c6]; exact ⟨rfl, rfl, same⟩
              · rw [if_neg c6, if_neg c6]
                by_cases c7 : nn ≤ nI L - d
                · rw [if_pos c7, if_pos c7]
                  obtain ⟨s, hs, rfl⟩ := nI_of c1
                  obtain ⟨t, ht, rfl⟩ := nI_of c2
                  obtain ⟨n, hn, rfl⟩ := nI_of c3
                  rw [nI_ltI (by omega) hs] at c4
                  rw [nI_ltI (by omega) ht] at c5
                  rw [pk_sub (by omega), nI_ltI (by omega) hn] at c6
                  rw [pk_sub (by omega), nI_leI hn (by omega)] at c7
                  rw [cpR_eq hj hj (by omega) (by omega)]
                  refine ⟨rfl, rfl, ?_⟩
                  dsimp only
                  rw [nI_clamp hn, tka_eq (by omega) (by omega)]
                  refine rS_cell hS hj g1 g2 g3 g4 g5 g6 ?_
                  have h0 : cR j L ces (ce j) ces := ⟨g7, fun _ _ => rfl⟩
                  by_cases c8 : t ≤ s
                  · rw [if_pos c8, if_pos c8]
                    exact cpA (f := fun k => t + k) (g := fun k => s + k) h0 g2 n (fun k hk => ⟨by omega, by omega⟩)
                  · rw [if_neg c8, if_neg c8]
                    exact cpA (f := fun k => t + (n - k - 1)) (g := fun k => s + (n - k - 1)) h0 g2 n (fun k hk => ⟨by omega, by omega⟩)
                · rw [if_neg c7, if_neg c7]; exact ⟨rfl, rfl, same⟩
end CPY
section NG
variable {kd pl mkd mpl : Nat → Int32} {N : Nat} {an : Int32}
variable {la le : Nat → Int32} {ce : Nat → Nat → Int32} {so sl ces : Nat → Int32}
theorem ans_of {x : Int32} (ha : an = nI N) (hN : N ≤ 6) : (∃ j, j < N ∧ x = nI j) → ¬ fX4_isAnswer an x = 0 := by
  rintro ⟨j, hj, rfl⟩
  unfold fX4_isAnswer
  rw [if_neg (nI_pos (by omega)), ha, if_neg (fun h => by have := (nI_leI (by omega) (by omega)).mp h; omega)]
  decide
/-- what may be the truth by the first k nights -/
def okN (kd pl : Nat → Int32) (xs : Nat → Nat) (t : Nat) : Nat → Nat → Bool
  | 0, _ => true
  | k + 1, o => okN kd pl xs t k o && decide (fX4_shownBy kd pl (nI (xs k)) (nI o) = fX4_shownBy kd pl (nI (xs k)) (nI t))
theorem okN_t {xs : Nat → Nat} {t : Nat} : ∀ k, okN kd pl xs t k t = true := by
  intro k
  induction k with
  | zero => rfl
  | succ k ih => show (okN kd pl xs t k t && decide (_ = _)) = true; rw [ih]; simp
theorem may_eq (hA : rA N an kd pl mkd mpl) {c : Nat → Int32} {a n t : Nat} {xs : Nat → Nat} (hn : a + n ≤ 60) (ht : t < N) (hx : ∀ k, k < n → xs k < N ∧ c (a + k) = nI (xs k)) : ∀ k, k ≤ n → lp (fun k9 v => sX3_mayBe_12 kd pl c N (nI t) (nI a) k9 v) (fX1_all an) k = nI (maskF (okN mkd mpl xs t k) N) := by
  have hN := hA.2.1
  intro k
  induction k with
  | zero =>
    intro _
    show fX1_all an = _
    rw [show fX1_all an = (1 <<< (an &&& 31)) - 1 from rfl, mAll hA.1 hN]
    congr 1
    apply Nat.eq_of_testBit_eq
    intro i
    rw [Nat.testBit_two_pow_sub_one, maskF_testBit]
    simp [okN]
  | succ k ih =>
    intro hk
    obtain ⟨h1, h2⟩ := hx k (by omega)
    rw [lp_succ, ih (by omega)]
    unfold sX3_mayBe_12 fX2_get
    rw [nI_add, at60 (by omega), h2, alike_eq hA h1 ht, mAnd, mask_and]
    rfl
theorem okN_one (hM : rM N mkd mpl) {xs : Nat → Nat} {t k0 : Nat} (ht : t < N) (h0 : xs k0 = t) : ∀ k, k0 < k → ∀ o, o < N → okN mkd mpl xs t k o = true → o = t := by
  intro k hk o ho h
  induction k with
  | zero => omega
  | succ k ih =>
    have h : (okN mkd mpl xs t k o && decide (fX4_shownBy mkd mpl (nI (xs k)) (nI o) = fX4_shownBy mkd mpl (nI (xs k)) (nI t))) = true := h
    rw [Bool.and_eq_true, decide_eq_true_iff] at h
    by_cases e : k = k0
    · subst e
      have h2 := h.2
      rw [h0] at h2
      have e9 : fX4_shownBy mkd mpl (nI t) (nI t) = -9 := by rw [sh4, if_pos rfl]
      by_cases c : o = t
      · exact c
      · have := (shV hM ht ho c).1
        rw [this, e9] at h2
        exact absurd h2 (m9n (by have := (shV hM ht ho c).2; omega))
    · exact ih (by omega) h.1
theorem mask_one (hM : rM N mkd mpl) {xs : Nat → Nat} {t k0 k : Nat} (ht : t < N) (h0 : xs k0 = t) (hk : k0 < k) : maskF (okN mkd mpl xs t k) N = maskF (okN mkd mpl xs t (k0 + 1)) N := by
  refine maskF_congr N (fun o ho => ?_)
  by_cases c : o = t
  · rw [c, okN_t, okN_t]
  · have h1 : ¬ okN mkd mpl xs t k o = true := fun h => c (okN_one hM ht h0 k hk o ho h)
    have h2 : ¬ okN mkd mpl xs t (k0 + 1) o = true := fun h => c (okN_one hM ht h0 (k0 + 1) (by omega) o ho h)
    rw [Bool.not_eq_true] at h1 h2
    rw [h1, h2]
theorem bnd_eq {c : Nat → Int32} {a n t N : Nat} {xs : Nat → Nat} (hN : N ≤ 6) (hn : a + n ≤ 60) (ht : t < N) (hx : ∀ k, k < n → xs k < N ∧ c (a + k) = nI (xs k)) : ∀ k, k ≤ n → ((∀ m, m < k → xs m ≠ t) ∧ lq (fun k9 z => sX3_boundOn_3 c (nI t) (nI a) k9 z) () k = .inl ()) ∨ ∃ k0, k0 < k ∧ xs k0 = t ∧ (∀ m, m < k0 → xs m ≠ t) ∧ lq (fun k9 z => sX3_boundOn_3 c (nI t) (nI a) k9 z) () k = .inr (nI k0) := by
  intro k
  induction k with
  | zero => intro _; exact .inl ⟨fun m h => absurd h (Nat.not_lt_zero _), rfl⟩
  | succ k ih =>
    intro hk
    rcases ih (by omega) with ⟨h1, h2⟩ | ⟨k0, h1, h2, h3, h4⟩
    · rw [lq_inl h2]
      obtain ⟨g1, g2⟩ := hx k (by omega)
      unfold sX3_boundOn_3 fX2_get
      rw [nI_add, at60 (by omega), g2]
      by_cases e : xs k = t
      · rw [if_pos (by rw [e])]
        exact .inr ⟨k, by omega, e, h1, rfl⟩
      · rw [if_neg (fun h => e ((nI_eq (by omega) (by omega)).mp h))]
        refine .inl ⟨fun m hm => ?_, rfl⟩
        by_cases e2 : m = k
        · subst e2; exact e
        · exact h1 m (by omega)
    · rw [lq_inr h4]
      exact .inr ⟨k0, by omega, h2, h3, rfl⟩
theorem tel_eq (hM : rM N mkd mpl) (ha : an = nI N) {fi n t : Nat} {xs : Nat → Nat} (hfi : fi + n ≤ 240) (ht : t < N) (hx : ∀ k, k < n → xs k < N ∧ ces (fi + k) = nI (xs k)) (wh : Int32) : ∀ k, k ≤ n →
    ((∀ m, m < k → xs m ≠ t) ∧ lq (fun k9 s => sX4_tellNights_21 ces mkd mpl N (nI t) (nI fi) wh k9 s.1 s.2.1 s.2.2) (((1 <<< (an &&& 31)) - 1), (-9), (-9)) k = .inl (nI (maskF (okN mkd mpl xs t k) N), -9, if k = 0 then -9 else fX4_shownBy mkd mpl (nI (xs (k - 1))) (nI t))) ∨
    ∃ k0, k0 < k ∧ xs k0 = t ∧ (∀ m, m < k0 → xs m ≠ t) ∧ (lq (fun k9 s => sX4_tellNights_21 ces mkd mpl N (nI t) (nI fi) wh k9 s.1 s.2.1 s.2.2) (((1 <<< (an &&& 31)) - 1), (-9), (-9)) k = .inl (nI (maskF (okN mkd mpl xs t (k0 + 1)) N), nI k0, -9) ∨ lq (fun k9 s => sX4_tellNights_21 ces mkd mpl N (nI t) (nI fi) wh k9 s.1 s.2.1 s.2.2) (((1 <<< (an &&& 31)) - 1), (-9), (-9)) k = .inr (aX4_tellNights_21 wh (nI (maskF (okN mkd mpl xs t (k0 + 1)) N)) (nI k0) (-9))) := by
  have hN := hM.1
  intro k
  induction k with
  | zero =>
    intro _
    refine .inl ⟨fun m h => absurd h (Nat.not_lt_zero _), ?_⟩
    show Sum.inl (((1 <<< (an &&& 31)) - 1), (-9), (-9)) = _
    rw [mAll ha hN, if_pos rfl]
    have e : 2 ^ N - 1 = maskF (okN mkd mpl xs t 0) N := by
      apply Nat.eq_of_testBit_eq
      intro i
      rw [Nat.testBit_two_pow_sub_one, maskF_testBit]
      simp [okN]
    rw [e]
  | succ k ih =>
    intro hk
    rcases ih (by omega) with ⟨h1, h2⟩ | ⟨k0, h1, h2, h3, h4 | h4⟩
    · rw [lq_inl h2]
      obtain ⟨g1, g2⟩ := hx k (by omega)
      dsimp only
      unfold sX4_tellNights_21
      rw [if_pos rfl, nI_add, nI_clamp (by omega), g2, group_eq hN (maskF_64 hN), mAnd]
      have eg : maskF (okN mkd mpl xs t k) N &&& gG mkd mpl N (xs k) (fX4_shownBy mkd mpl (nI (xs k)) (nI t)) (maskF (okN mkd mpl xs t k) N) = maskF (okN mkd mpl xs t (k + 1)) N := by
        unfold gG
        rw [mask_and]
        refine maskF_congr N (fun o ho => ?_)
        rw [maskF_testBit, decide_eq_true ho, Bool.true_and]
        show (okN mkd mpl xs t k o && (okN mkd mpl xs t k o && _)) = (okN mkd mpl xs t k o && _)
        cases okN mkd mpl xs t k o <;> simp
      rw [eg]
      by_cases e : xs k = t
      · rw [if_pos (by rw [e])]
        refine .inr ⟨k, by omega, e, h1, .inl ?_⟩
        rw [show fX4_shownBy mkd mpl (nI (xs k)) (nI t) = -9 by rw [e, sh4, if_pos rfl]]
      · rw [if_neg (fun h => e ((nI_eq (by omega) (by omega)).mp h))]
        refine .inl ⟨fun m hm => ?_, ?_⟩
        · by_cases e2 : m = k
          · subst e2; exact e
          · exact h1 m (by omega)
        · rw [if_neg (by omega), Nat.add_sub_cancel]
    · rw [lq_inl h4]
      dsimp only
      unfold sX4_tellNights_21
      rw [if_neg (m9n (by omega))]
      exact .inr ⟨k0, by omega, h2, h3, .inr rfl⟩
    · rw [lq_inr h4]
      exact .inr ⟨k0, by omega, h2, h3, .inr rfl⟩
theorem asw_eq (ha : an = nI N) (hN : N ≤ 6) {j a n L : Nat} (hj : j < 4) (hn : a + n ≤ L) (hL : L ≤ 60) {c : Nat → Int32} (g7 : ∀ i, i < L → ces (60 * j + i) = c i) (R : Int32 × Int32) : ∀ k, k ≤ n →
    ((∀ m, m < k → ∃ x, x < N ∧ c (a + m) = nI x) ∧ lq (fun k9 z => sX3_areAnswers_3 an c (nI a) k9 z) () k = .inl () ∧ lq (fun k9 z => sX4_nights_89 an ces (nI j) (nI a) k9 z) () k = .inl ()) ∨ (lq (fun k9 z => sX3_areAnswers_3 an c (nI a) k9 z) () k = .inr 0 ∧ lq (fun k9 z => sX4_nights_89 an ces (nI j) (nI a) k9 z) () k = .inr (-1, 0)) := by
  intro k
  induction k with
  | zero => intro _; exact .inl ⟨fun m h => absurd h (Nat.not_lt_zero _), rfl, rfl⟩
  | succ k ih =>
    intro hk
    rcases ih (by omega) with ⟨h1, h2, h3⟩ | ⟨h2, h3⟩
    · rw [lq_inl h2, lq_inl h3]
      unfold sX3_areAnswers_3 sX4_nights_89 fX2_get
      rw [nI_add, at60 (by omega), isA_eq, show (60 : Int32) = nI 60 from rfl, pk_mul, nI_add, nI_add, nI_clamp (by omega), Nat.add_assoc, g7 (a + k) (by omega)]
      by_cases c1 : fX4_isAnswer an (c (a + k)) = 0
      · rw [if_pos c1, if_pos c1]; exact .inr ⟨rfl, rfl⟩
      · rw [if_neg c1, if_neg c1]
        refine .inl ⟨fun m hm => ?_, rfl, rfl⟩
        by_cases e : m = k
        · subst e; exact mAnsJ ha hN c1
        · exact h1 m (by omega)
    · rw [lq_inr h2, lq_inr h3]; exact .inr ⟨rfl, rfl⟩
theorem e_nights (hA : rA N an kd pl mkd mpl) (hS : rS la le ce so sl ces) {j : Nat} (hj : j < 4) (t ln i nn wh : Int32) : fX3_nights_s an kd pl (la j) (le j) (ce j) N t ln i nn wh = fX4_nights an so sl ces mkd mpl N t (nI j) ln i nn wh := by
  have hM := rA_M hA
  have hN := hM.1
  unfold fX3_nights_s fX4_nights
  rw [if_neg (isSh hj), isA_eq, sort_eq, show fX3_within nn 20 = fX4_within nn 0 20 from eW nn 20, show fX3_within wh 2 = fX4_within wh 0 2 from eW wh 2]
  by_cases c0 : fX4_isAnswer an t = 0
  · rw [if_pos c0, if_pos c0]
  rw [if_neg c0, if_neg c0]
  by_cases c1 : fX3_within ln 2 = 0
  · rw [if_pos c1, if_pos c1]
  rw [if_neg c1, if_neg c1]
  by_cases c2 : fX4_within nn 0 20 = 0
  · rw [if_pos c2, if_pos c2]
  rw [if_neg c2, if_neg c2]
  by_cases c3 : fX4_within wh 0 2 = 0
  · rw [if_pos c3, if_pos c3]
  rw [if_neg c3, if_neg c3]
  obtain ⟨e1, e2⟩ := mWith 20 (by decide) c2
  generalize nn.toNatClampNeg = n at e1 e2
  subst e1
  rw [ag_eq hj (hS j hj), if_pos (nI_pos' (by omega) : 0 ≤ nI n)]
  by_cases c4 : fX2_faultAs (la j) ln = 0
  · rw [if_pos c4, if_pos c4]
    by_cases c5 : fX2_hasCells (le j) i (nI n) = 0
    · rw [if_pos c5, if_pos c5, if_neg (by decide)]
    rw [if_neg c5, if_neg c5, if_pos z00]
    rcases (hS j hj).2 with ⟨g1, g2, g3⟩ | ⟨l0, L, g1, g2, g3, g4, g5, g6, g7⟩
    · exfalso
      rw [g1] at c4
      exact absurd c4 (show ¬ (1 : Int32) = 0 by decide)
    obtain ⟨a, b, rfl, e3, hab⟩ := kHas2 g5 (by omega) c5
    obtain ⟨tt, htt, rfl⟩ := mAnsJ hA.1 hN c0
    have hb : n = b := by
      have hb : b ≤ L := by omega
      exact (nI_eq (by omega) (by omega)).mp e3
    subst hb
    unfold fX3_areAnswers
    rcases asw_eq hA.1 hN hj hab g2 g7 (0, 0) n (Nat.le_refl _) with ⟨h1, h2, h3⟩ | ⟨h2, h3⟩
    · rw [h2, h3]
      show (if (1 : Int32) = 0 then _ else _) = aX4_nights_89 an ces mkd mpl N (nI tt) (nI j) (nI a) (nI n) wh ()
      rw [if_neg n10]
      unfold aX4_nights_89
      obtain ⟨xs, hxs⟩ : ∃ xs : Nat → Nat, ∀ m, m < n → xs m < N ∧ ce j (a + m) = nI (xs m) := ⟨fun m => (ce j (a + m)).toNatClampNeg, fun m hm => by
        obtain ⟨x, hx, e⟩ := h1 m hm
        show (ce j (a + m)).toNatClampNeg < N ∧ _ = nI (ce j (a + m)).toNatClampNeg
        rw [e, nI_clamp (by omega)]; exact ⟨hx, rfl⟩⟩
      have hxs2 : ∀ m, m < n → xs m < N ∧ ces (60 * j + a + m) = nI (xs m) := fun m hm => ⟨(hxs m hm).1, by rw [Nat.add_assoc, g7 _ (by omega)]; exact (hxs m hm).2⟩
      have m1 := may_eq hA (by omega : a + n ≤ 60) htt hxs n (Nat.le_refl _)
      have b1 := bnd_eq hN (by omega : a + n ≤ 60) htt hxs n (Nat.le_refl _)
      have t1 := tel_eq hM hA.1 (by omega : 60 * j + a + n ≤ 240) htt hxs2 wh n (Nat.le_refl _)
      rw [nI_clamp (by omega), show (60 : Int32) = nI 60 from rfl, pk_mul, nI_add (60 * j) a]
      have hmay : fX3_mayBe an kd pl (ce j) N n (nI tt) (nI a) = nI (maskF (okN mkd mpl xs tt n) N) := m1
      rw [hmay]
      unfold fX3_boundOn fX4_tellNights
      rcases b1 with ⟨p1, p2⟩ | ⟨k0, p1, p2, p3, p4⟩
      · rcases t1 with ⟨q1, q2⟩ | ⟨k1, q1, q2, -, -⟩
        · rw [p2, q2]
          show (if wh = 0 then _ else if wh = 1 then ((-9 : Int32), (0 : Int32)) else if (-9 : Int32) = -9 then _ else _) = (aX4_tellNights_21 wh _ _ _, 0)
          rw [if_pos (rfl : (-9 : Int32) = -9)]
          unfold aX4_tellNights_21
          by_cases w0 : wh = 0
          · rw [if_pos w0, if_pos w0]
          · rw [if_neg w0, if_neg w0]
            by_cases w1 : wh = 1
            · rw [if_pos w1, if_pos w1]
            · rw [if_neg w1, if_neg w1]
              rcases Nat.eq_zero_or_pos n with n0 | n0
              · subst n0; rfl
              · obtain ⟨d, rfl⟩ : ∃ d, n = d + 1 := ⟨n - 1, by omega⟩
                rw [if_neg (nI_ne0 (by omega) (by omega)), if_neg (by omega)]
                unfold fX2_get
                rw [nI_add, ← Nat.add_assoc, nI_pred, at60 (by omega), (hxs d (by omega)).2, eSh hA (hxs d (by omega)).1 htt, Nat.add_sub_cancel]
        · exact absurd q2 (p1 k1 q1)
      · rcases t1 with ⟨q1, q2⟩ | ⟨k1, q1, q2, q3, q4⟩
        · exact absurd p2 (q1 k0 p1)
        · have hk : k1 = k0 := by
            rcases Nat.lt_trichotomy k1 k0 with h | h | h
            · exact absurd q2 (p3 k1 h)
            · exact h
            · exact absurd p2 (q3 k0 h)
          subst hk
          have e9 : ¬ nI k1 = (-9 : Int32) := m9n (by omega)
          have em := mask_one hM htt p2 p1
          rw [p4, em]
          show (if wh = 0 then _ else if wh = 1 then (nI k1, (0 : Int32)) else if nI k1 = -9 then _ else _) = _
          rw [if_neg e9]
          rcases q4 with q4 | q4
          · rw [q4]
            show _ = (aX4_tellNights_21 wh _ _ _, 0)
            unfold aX4_tellNights_21
            by_cases w0 : wh = 0
            · rw [if_pos w0, if_pos w0]
            · rw [if_neg w0, if_neg w0]
              by_cases w1 : wh = 1
              · rw [if_pos w1, if_pos w1]
              · rw [if_neg w1, if_neg w1]
          · rw [q4]
            show _ = (aX4_tellNights_21 wh _ _ _, 0)
            unfold aX4_tellNights_21
            by_cases w0 : wh = 0
            · rw [if_pos w0, if_pos w0]
            · rw [if_neg w0, if_neg w0]
              by_cases w1 : wh = 1
              · rw [if_pos w1, if_pos w1]
              · rw [if_neg w1, if_neg w1]
    · rw [h2, h3]
      show (if (0 : Int32) = 0 then _ else _) = (-1, 0)
      rw [if_pos z00]
  · rw [if_neg c4, if_neg c4, if_neg c4]
end NG
