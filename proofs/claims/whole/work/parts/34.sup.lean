section SUP
variable {kd pl mkd mpl : Nat → Int32} {N : Nat} {an : Int32}
variable {la le : Nat → Int32} {ce : Nat → Nat → Int32} {so sl ces : Nat → Int32}
theorem rS_le (hS : rS la le ce so sl ces) {j : Nat} (hj : j < 4) : ∃ L, L ≤ 60 ∧ le j = nI L := by
  rcases (hS j hj).2 with ⟨-, -, g3⟩ | ⟨a, L, -, g2, -, -, g5, -, -⟩
  · exact ⟨0, by decide, g3⟩
  · exact ⟨L, g2, g5⟩
theorem worst_rel (hA : rA N an kd pl mkd mpl) {old pa : Int32} {al wo fi ni : Nat → Int32} (hP : rPl N an kd pl old al wo fi ni pa) (se : Int32) : rPl N an kd pl (fX3_worst old an kd pl al wo fi ni pa N (2 ^ N - 1) se).2.2.2.2.2.2 (fX3_worst old an kd pl al wo fi ni pa N (2 ^ N - 1) se).2.1 (fX3_worst old an kd pl al wo fi ni pa N (2 ^ N - 1) se).2.2.1 (fX3_worst old an kd pl al wo fi ni pa N (2 ^ N - 1) se).2.2.2.1 (fX3_worst old an kd pl al wo fi ni pa N (2 ^ N - 1) se).2.2.2.2.1 (fX3_worst old an kd pl al wo fi ni pa N (2 ^ N - 1) se).2.2.2.2.2.1 := by
  unfold fX3_worst
  split
  · split
    · exact hP
    · exact planned_rel hA hP
  · exact hP
theorem ask_rel (hA : rA N an kd pl mkd mpl) {old pa : Int32} {al wo fi ni : Nat → Int32} (hP : rPl N an kd pl old al wo fi ni pa) (se : Int32) : rPl N an kd pl (fX3_ask old an kd pl al wo fi ni pa N (2 ^ N - 1) se).2.2.2.2.2.2 (fX3_ask old an kd pl al wo fi ni pa N (2 ^ N - 1) se).2.1 (fX3_ask old an kd pl al wo fi ni pa N (2 ^ N - 1) se).2.2.1 (fX3_ask old an kd pl al wo fi ni pa N (2 ^ N - 1) se).2.2.2.1 (fX3_ask old an kd pl al wo fi ni pa N (2 ^ N - 1) se).2.2.2.2.1 (fX3_ask old an kd pl al wo fi ni pa N (2 ^ N - 1) se).2.2.2.2.2.1 := by
  unfold fX3_ask
  split
  · split
    · exact hP
    · exact planned_rel hA hP
  · exact hP
theorem mean_rel (hA : rA N an kd pl mkd mpl) {old pa : Int32} {al wo fi ni : Nat → Int32} (hP : rPl N an kd pl old al wo fi ni pa) (Bc : Nat) (se wh : Int32) : rPl N an kd pl (fX3_mean old an kd pl al wo fi ni pa N (2 ^ N - 1) Bc se wh).2.2.2.2.2.2 (fX3_mean old an kd pl al wo fi ni pa N (2 ^ N - 1) Bc se wh).2.1 (fX3_mean old an kd pl al wo fi ni pa N (2 ^ N - 1) Bc se wh).2.2.1 (fX3_mean old an kd pl al wo fi ni pa N (2 ^ N - 1) Bc se wh).2.2.2.1 (fX3_mean old an kd pl al wo fi ni pa N (2 ^ N - 1) Bc se wh).2.2.2.2.1 (fX3_mean old an kd pl al wo fi ni pa N (2 ^ N - 1) Bc se wh).2.2.2.2.2.1 := by
  unfold fX3_mean
  split
  · split
    · exact hP
    · split
      · exact hP
      · split
        · exact hP
        · exact planned_rel hA hP
  · exact hP
theorem odds_rel (hA : rA N an kd pl mkd mpl) {old pa : Int32} {al wo fi ni : Nat → Int32} (hP : rPl N an kd pl old al wo fi ni pa) (nn wh : Int32) : rPl N an kd pl (fX3_odds old an kd pl al wo fi ni pa N (2 ^ N - 1) nn wh).2.2.2.2.2.2 (fX3_odds old an kd pl al wo fi ni pa N (2 ^ N - 1) nn wh).2.1 (fX3_odds old an kd pl al wo fi ni pa N (2 ^ N - 1) nn wh).2.2.1 (fX3_odds old an kd pl al wo fi ni pa N (2 ^ N - 1) nn wh).2.2.2.1 (fX3_odds old an kd pl al wo fi ni pa N (2 ^ N - 1) nn wh).2.2.2.2.1 (fX3_odds old an kd pl al wo fi ni pa N (2 ^ N - 1) nn wh).2.2.2.2.2.1 := by
  unfold fX3_odds
  split
  · split
    · exact hP
    · split
      · exact hP
      · exact planned_rel hA hP
  · exact hP
theorem sheet_n {sh : Int32} (h : fX4_isSheet sh = 0) (ln nn : Int32) : fX4_sheet so sl ces sh ln nn = (-1, 0, so, sl, ces) := by unfold fX4_sheet; rw [if_pos h]
theorem lose_n {sh : Int32} (h : fX4_isSheet sh = 0) : fX4_lose so sh = (-1, so) := by unfold fX4_lose; rw [if_pos h]
theorem put_n {sh : Int32} (h : fX4_isSheet sh = 0) (i v : Int32) : fX4_put so sl ces sh i v = (-1, 0, ces) := by unfold fX4_put; rw [if_pos h]
theorem cell_n {sh : Int32} (h : fX4_isSheet sh = 0) (i ln : Int32) : fX4_cell so sl ces sh i ln = (-9223372036854775808, 0) := by unfold fX4_cell; rw [if_pos h]
theorem nights_n {sh : Int32} (h : fX4_isSheet sh = 0) (t ln i nn wh : Int32) : fX4_nights an so sl ces kd pl N t sh ln i nn wh = (-1, 0) := by
  unfold fX4_nights; rw [if_pos h]; split <;> rfl
theorem nights_nc (t : Int32) : fX3_nights_n an t = (-1, 0) := by unfold fX3_nights_n; split <;> rfl
theorem copy_n1 {sh oh : Int32} (h : fX4_isSheet sh = 0) (i j nn : Int32) : fX4_copy so sl ces sh i oh j nn = (-1, 0, ces) := by unfold fX4_copy; rw [if_pos h]
theorem copy_n3 {sh oh : Int32} (h : ¬ fX4_isSheet sh = 0) (h2 : fX4_isSheet oh = 0) (i j nn : Int32) : fX4_copy so sl ces sh i oh j nn = (-1, 0, ces) := by unfold fX4_copy; rw [if_neg h, if_pos h2]
section SEC
variable {pn gr ax ra rp rg rd : Int32} {wt xk xp xw : Nat → Int32} {Na Pa : Nat}
theorem secret_n {sh : Int32} (h : fX4_isSheet sh = 0) (ln i nn : Int32) : fX4_secret an pn gr ax ra rp rg rd so sl ces kd pl wt xk xp xw Na Pa sh ln i nn = (-1, 0, ax, ra, rp, rg, xk, xp, xw, an, kd, pl, gr, pn, wt, rd) := by unfold fX4_secret; rw [if_pos h]
/-- a text that is taken -/
def Taken (bgr : Int32) (bkd bpl bwt : Nat → Int32) (la0 le0 : Int32) (ce0 : Nat → Int32) (ln i nn : Int32) : Prop := ¬ (fX3_within ln 2) = 0 ∧ (fX2_faultAs la0 ln) = 0 ∧ (0 : Int32) ≤ nn ∧ ¬ (fX2_hasCells le0 i nn) = 0 ∧ (fX1_readText bgr bkd bpl bwt ce0 nn.toNatClampNeg i nn).1 = (-1)
theorem secret_read (hS : rS la le ce so sl ces) {j : Nat} (hj : j < 4) {bgr : Int32} {bkd bpl bwt : Nat → Int32} {ln i nn : Int32} (c1 : ¬ (fX3_within ln 2) = 0) (c2 : (fX2_faultAs (la j) ln) = 0) (c3 : (0 : Int32) ≤ nn) (c4 : ¬ (fX2_hasCells (le j) i nn) = 0) : ∃ a n, a + n ≤ 60 ∧ i = nI a ∧ nn = nI n ∧ 60 * j + a + n ≤ 240 ∧ (60 * nI j) + i = nI (60 * j + a) ∧ ((60 * nI j) + i) + nn = nI (60 * j + a + n) ∧ OkS bgr bkd bpl bwt (ce j) a n (60 * j + a) (fX4_readSecret ((60 * nI j) + i) rg ces xk xp xw (((60 * nI j) + i) + nn)) := by
  rcases (hS j hj).2 with ⟨g1, g2, g3⟩ | ⟨l0, L, g1, g2, g3, g4, g5, g6, g7⟩
  · exfalso
    rw [g1] at c2
    exact absurd c2 (show ¬ (1 : Int32) = 0 by decide)
  obtain ⟨a, n, e1, e2, h⟩ := kHas2 g5 (by omega) c4
  have e3 : (60 * nI j) + i = nI (60 * j + a) := by rw [e1, show (60 : Int32) = nI 60 from rfl, pk_mul, nI_add]
  have e4 : ((60 * nI j) + i) + nn = nI (60 * j + a + n) := by rw [e3, e2, nI_add]
  refine ⟨a, n, by omega, e1, e2, by omega, e3, e4, ?_⟩
  rw [e4, e3]
  exact rdS (by omega) (by omega) (fun p hp => by rw [Nat.add_assoc]; exact g7 _ (by omega)) rg xk xp xw
theorem e_secret_s (hS : rS la le ce so sl ces) {j : Nat} (hj : j < 4) {ban bpn bgr : Int32} {bkd bpl bwt : Nat → Int32} {ln i nn : Int32} (hno : ¬ Taken bgr bkd bpl bwt (la j) (le j) (ce j) ln i nn) : ∃ ax' ra' rp' rg' xk' xp' xw', fX4_secret an pn gr ax ra rp rg rd so sl ces kd pl wt xk xp xw Na Pa (nI j) ln i nn = ((fX3_secret_s ban bpn bgr bkd bpl bwt (la j) (le j) (ce j) ln i nn).1, (fX3_secret_s ban bpn bgr bkd bpl bwt (la j) (le j) (ce j) ln i nn).2.1, ax', ra', rp', rg', xk', xp', xw', an, kd, pl, gr, pn, wt, rd) := by
  unfold fX4_secret fX3_secret_s
  rw [if_neg (isSh hj), sort_eq]
  by_cases c1 : fX3_within ln 2 = 0
  · rw [if_pos c1, if_pos c1]; exact ⟨_, _, _, _, _, _, _, rfl⟩
  rw [if_neg c1, if_neg c1, ag_eq hj (hS j hj)]
  by_cases c2 : fX2_faultAs (la j) ln = 0
  · rw [if_pos c2, if_pos c2]
    by_cases c3 : 0 ≤ nn
    · rw [if_pos c3, if_pos c3]
      by_cases c4 : fX2_hasCells (le j) i nn = 0
      · rw [if_pos c4, if_pos c4, if_neg (by decide)]; exact ⟨_, _, _, _, _, _, _, rfl⟩
      · rw [if_neg c4, if_neg c4, if_pos z00]
        have c5 : ¬ (fX1_readText bgr bkd bpl bwt (ce j) nn.toNatClampNeg i nn).1 = -1 := fun c5 => hno ⟨c1, c2, c3, c4, c5⟩
        obtain ⟨a, n, ha, e1, e2, hn, e3, e4, hok⟩ := secret_read (rg := rg) (xk := xk) (xp := xp) (xw := xw) (bgr := bgr) (bkd := bkd) (bpl := bpl) (bwt := bwt) hS hj c1 c2 c3 c4
        have eRT : fX1_readText bgr bkd bpl bwt (ce j) nn.toNatClampNeg i nn = RT bgr bkd bpl bwt (ce j) a n := by rw [e1, e2, nI_clamp (by omega)]
        rw [if_neg c5]
        rcases hok with ⟨r1, p, hp, r2, r3⟩ | ⟨r1, m, q, g, kd', pl', wt', r2, -⟩
        · rw [if_pos r1]
          have k1 : (fX4_readSecret ((60 * nI j) + i) rg ces xk xp xw (((60 * nI j) + i) + nn)).2.1 - ((60 * nI j) + i) = nI p := by rw [r2, e3, pk_sub (by omega), Nat.add_sub_cancel_left]
          rw [k1, eRT, r3]
          exact ⟨_, _, _, _, _, _, _, rfl⟩
        · rw [eRT, r2] at c5
          exact absurd rfl c5
    · rw [if_neg c3, if_neg c3, if_neg (by decide)]; exact ⟨_, _, _, _, _, _, _, rfl⟩
  · rw [if_neg c2, if_neg c2, if_neg c2]; exact ⟨_, _, _, _, _, _, _, rfl⟩
theorem cp_two {f g A B : Nat → Int32} : ∀ n, n < 2 ^ 31 → ∀ t, t < n → (lp (fun k (a : (Nat → Int32) × (Nat → Int32)) => (upd a.1 ((nI k).toNatClampNeg) (f (nI k).toNatClampNeg), upd a.2 ((nI k).toNatClampNeg) (g (nI k).toNatClampNeg))) (A, B) n).1 t = f t ∧ (lp (fun k (a : (Nat → Int32) × (Nat → Int32)) => (upd a.1 ((nI k).toNatClampNeg) (f (nI k).toNatClampNeg), upd a.2 ((nI k).toNatClampNeg) (g (nI k).toNatClampNeg))) (A, B) n).2 t = g t := by
  intro n
  induction n with
  | zero => intro _ t h; omega
  | succ n ih =>
    intro hn t ht
    rw [lp_succ]
    dsimp only
    rw [nI_clamp (by omega)]
    by_cases e : t = n
    · subst e; rw [pk_us, pk_us]; exact ⟨rfl, rfl⟩
    · rw [pk_un e, pk_un e]; exact ih (by omega) t (by omega)
theorem cp_one {f A : Nat → Int32} : ∀ n, n < 2 ^ 31 → ∀ t, t < n → lp (fun k (a : Nat → Int32) => upd a ((nI k).toNatClampNeg) (f (nI k).toNatClampNeg)) A n t = f t := by
  intro n
  induction n with
  | zero => intro _ t h; omega
  | succ n ih =>
    intro hn t ht
    rw [lp_succ, nI_clamp (by omega)]
    by_cases e : t = n
    · subst e; rw [pk_us]
    · rw [pk_un e]; exact ih (by omega) t (by omega)
theorem e_secret_k (hS : rS la le ce so sl ces) {j : Nat} (hj : j < 4) {bgr : Int32} {bkd bpl bwt : Nat → Int32} {ln i nn : Int32} (ht : Taken bgr bkd bpl bwt (la j) (le j) (ce j) ln i nn)
    (hNa : Na = Nat.min 6 (fX4_readSecret ((60 * nI j) + i) rg ces xk xp xw (((60 * nI j) + i) + nn)).2.2.1.toNatClampNeg) (hPa : Pa = Nat.min 5 (fX4_readSecret ((60 * nI j) + i) rg ces xk xp xw (((60 * nI j) + i) + nn)).2.2.2.1.toNatClampNeg) :
    ∃ m q g kd' pl' wt' mkd' mpl' mwt' ax' ra' rp' rg' xk' xp' xw', fX3_secret_k bgr bkd bpl bwt (ce j) i nn = (nI m, 0, 0, 1, nI m, nI q, g, kd', pl', wt') ∧ fX4_secret an pn gr ax ra rp rg rd so sl ces kd pl wt xk xp xw Na Pa (nI j) ln i nn = (nI m, 0, ax', ra', rp', rg', xk', xp', xw', nI m, mkd', mpl', g, nI q, mwt', 0) ∧ rA m (nI m) kd' pl' mkd' mpl' ∧ rP q (nI q) wt' mwt' := by
  obtain ⟨c1, c2, c3, c4, c5⟩ := ht
  unfold fX4_secret
  rw [if_neg (isSh hj), sort_eq, if_neg c1, ag_eq hj (hS j hj), if_pos c2, if_pos c3, if_neg c4, if_pos z00]
  obtain ⟨a, n, ha, e1, e2, hn, e3, e4, hok⟩ := secret_read (rg := rg) (xk := xk) (xp := xp) (xw := xw) (bgr := bgr) (bkd := bkd) (bpl := bpl) (bwt := bwt) hS hj c1 c2 c3 c4
  have eRT : fX1_readText bgr bkd bpl bwt (ce j) nn.toNatClampNeg i nn = RT bgr bkd bpl bwt (ce j) a n := by rw [e1, e2, nI_clamp (by omega)]
  rcases hok with ⟨r1, p, hp, r2, r3⟩ | ⟨r1, m, q, g, kd', pl', wt', r2, h2, h6, hq, r5, r6, r7, r8, r9⟩
  · exfalso
    rw [eRT, r3] at c5
    exact nI_pos (by omega : p < 2 ^ 31) (by rw [c5]; decide)
  · rw [if_neg (by rw [r1]; decide)]
    have eN : Na = m := by rw [hNa, r5, nI_clamp (by omega)]; exact Nat.min_eq_right h6
    have eP : Pa = q := by rw [hPa, r6, nI_clamp (by omega)]; exact Nat.min_eq_right hq
    subst eN; subst eP
    unfold aX4_secret_95 aX4_secret_157
    rw [r5, r6, r7]
    refine ⟨Na, Pa, g, kd', pl', wt', _, _, _, _, _, _, _, _, _, _, ?_, rfl, ?_, ?_⟩
    · unfold fX3_secret_k
      rw [eRT, r2]; rfl
    · refine ⟨rfl, h6, fun t ht => ?_⟩
      obtain ⟨q1, q2, q3, q4⟩ := r8 t ht
      have hcp := cp_two (f := (fX4_readSecret ((60 * nI j) + i) rg ces xk xp xw (((60 * nI j) + i) + nn)).2.2.2.2.2.1) (g := (fX4_readSecret ((60 * nI j) + i) rg ces xk xp xw (((60 * nI j) + i) + nn)).2.2.2.2.2.2.1) (A := kd) (B := pl) Na (by omega) t ht
      exact ⟨hcp.1.trans q1, hcp.2.trans q2, q3, q4⟩
    · refine ⟨rfl, hq, fun t ht => ?_⟩
      exact (cp_one (f := (fX4_readSecret ((60 * nI j) + i) rg ces xk xp xw (((60 * nI j) + i) + nn)).2.2.2.2.2.2.2) (A := wt) Pa (by omega) t ht).trans (r9 t ht)
end SEC
end SUP
