theorem cw_ha {cI cS : ClassId} {h1 : Nat} {Xw : va_W} {lf tr an pn gr rd : Int32} {so sl ces kd pl wt ask shw : Nat → Int32} {N Pn Rn : Nat} (hC : CW cI cS h1 Xw lf tr an pn gr rd so sl ces kd pl wt ask shw N Pn Rn) : an = nI N := by
  obtain ⟨_, _, _, _, _, _, _, _, _, _, _, _, _, _, _, _, _, _, _, _, _, _, _, _, _, _, _, _, _, _, _, _, _, _, _, _, _, _, _, hw, hsf, hA, hPp, hR, hS, hPl⟩ := hC
  exact hA.1
theorem cw_hN {cI cS : ClassId} {h1 : Nat} {Xw : va_W} {lf tr an pn gr rd : Int32} {so sl ces kd pl wt ask shw : Nat → Int32} {N Pn Rn : Nat} (hC : CW cI cS h1 Xw lf tr an pn gr rd so sl ces kd pl wt ask shw N Pn Rn) : N ≤ 6 := by
  obtain ⟨_, _, _, _, _, _, _, _, _, _, _, _, _, _, _, _, _, _, _, _, _, _, _, _, _, _, _, _, _, _, _, _, _, _, _, _, _, _, _, hw, hsf, hA, hPp, hR, hS, hPl⟩ := hC
  exact hA.2.1
theorem cw_hpn {cI cS : ClassId} {h1 : Nat} {Xw : va_W} {lf tr an pn gr rd : Int32} {so sl ces kd pl wt ask shw : Nat → Int32} {N Pn Rn : Nat} (hC : CW cI cS h1 Xw lf tr an pn gr rd so sl ces kd pl wt ask shw N Pn Rn) : pn = nI Pn := by
  obtain ⟨_, _, _, _, _, _, _, _, _, _, _, _, _, _, _, _, _, _, _, _, _, _, _, _, _, _, _, _, _, _, _, _, _, _, _, _, _, _, _, hw, hsf, hA, hPp, hR, hS, hPl⟩ := hC
  exact hPp.1
theorem cw_hPn {cI cS : ClassId} {h1 : Nat} {Xw : va_W} {lf tr an pn gr rd : Int32} {so sl ces kd pl wt ask shw : Nat → Int32} {N Pn Rn : Nat} (hC : CW cI cS h1 Xw lf tr an pn gr rd so sl ces kd pl wt ask shw N Pn Rn) : Pn ≤ 5 := by
  obtain ⟨_, _, _, _, _, _, _, _, _, _, _, _, _, _, _, _, _, _, _, _, _, _, _, _, _, _, _, _, _, _, _, _, _, _, _, _, _, _, _, hw, hsf, hA, hPp, hR, hS, hPl⟩ := hC
  exact hPp.2.1
theorem cw_hrd {cI cS : ClassId} {h1 : Nat} {Xw : va_W} {lf tr an pn gr rd : Int32} {so sl ces kd pl wt ask shw : Nat → Int32} {N Pn Rn : Nat} (hC : CW cI cS h1 Xw lf tr an pn gr rd so sl ces kd pl wt ask shw N Pn Rn) : rd = nI Rn := by
  obtain ⟨_, _, _, _, _, _, _, _, _, _, _, _, _, _, _, _, _, _, _, _, _, _, _, _, _, _, _, _, _, _, _, _, _, _, _, _, _, _, _, hw, hsf, hA, hPp, hR, hS, hPl⟩ := hC
  exact hR.1
theorem cw_hRn {cI cS : ClassId} {h1 : Nat} {Xw : va_W} {lf tr an pn gr rd : Int32} {so sl ces kd pl wt ask shw : Nat → Int32} {N Pn Rn : Nat} (hC : CW cI cS h1 Xw lf tr an pn gr rd so sl ces kd pl wt ask shw N Pn Rn) : Rn ≤ 8 := by
  obtain ⟨_, _, _, _, _, _, _, _, _, _, _, _, _, _, _, _, _, _, _, _, _, _, _, _, _, _, _, _, _, _, _, _, _, _, _, _, _, _, _, hw, hsf, hA, hPp, hR, hS, hPl⟩ := hC
  exact hR.2.1
theorem cw_hsl {cI cS : ClassId} {h1 : Nat} {Xw : va_W} {lf tr an pn gr rd : Int32} {so sl ces kd pl wt ask shw : Nat → Int32} {N Pn Rn : Nat} (hC : CW cI cS h1 Xw lf tr an pn gr rd so sl ces kd pl wt ask shw N Pn Rn) : ∀ j, j < 4 → ∃ L : Nat, sl j = nI L ∧ L ≤ 60 := by
  obtain ⟨_, _, _, _, _, _, _, _, _, _, _, _, _, _, _, _, _, _, _, _, _, _, _, _, _, _, _, _, _, _, _, _, _, _, _, _, _, _, _, hw, hsf, hA, hPp, hR, hS, hPl⟩ := hC
  exact fun j hj => by obtain ⟨⟨L, h1, h2⟩, -⟩ := hS j hj; exact ⟨L, h2, h1⟩
theorem cw_hask {cI cS : ClassId} {h1 : Nat} {Xw : va_W} {lf tr an pn gr rd : Int32} {so sl ces kd pl wt ask shw : Nat → Int32} {N Pn Rn : Nat} (hC : CW cI cS h1 Xw lf tr an pn gr rd so sl ces kd pl wt ask shw N Pn Rn) : ∀ j, j < Rn → vp_in (ask j) 6 := by
  obtain ⟨_, _, _, _, _, _, _, _, _, _, _, _, _, _, _, _, _, _, _, _, _, _, _, _, _, _, _, _, _, _, _, _, _, _, _, _, _, _, _, hw, hsf, hA, hPp, hR, hS, hPl⟩ := hC
  exact fun j hj => by obtain ⟨h1, -, a, h3, h4⟩ := hR.2.2 j hj; rw [h1, h4]; exact vp_in_nI (by have := hA.2.1; omega) (by decide)
theorem cw_recv {cI cS : ClassId} {h1 : Nat} {Xw : va_W} {lf tr an pn gr rd : Int32} {so sl ces kd pl wt ask shw : Nat → Int32} {N Pn Rn : Nat} {D : va_G} {s : State} {H : Heap} (hK : kK D cI cS s) (hC : CW cI cS h1 Xw lf tr an pn gr rd so sl ces kd pl wt ask shw N Pn Rn) (hP : va_P D vwCl Xw H) : ∃ cell : Cell, H[h1]? = some cell ∧ cell.vm.isStatics = false ∧ s.vm.findClass RX3 = some cell.cls := by
  obtain ⟨_, _, _, _, _, _, _, _, _, _, _, _, _, _, _, _, _, _, _, _, _, _, _, _, _, _, _, _, _, _, _, _, _, _, _, _, _, _, _, hw, hsf, hA, hPp, hR, hS, hPl⟩ := hC
  subst hw
  exact va_recv hK.1 hP (ci := 3) (q0 := 0) rfl rfl
theorem lwTest {L j : Nat} (hL : L ≤ 448) (hj : j ≤ L) (c : ¬ (Int32.ofNat L - 7 < nI j)) : j + 7 ≤ L := by
  have h1 : (nI L - nI 7).toInt = (L : Int) - 7 := pk_sub_toInt (by omega) (by decide)
  have h2 : (nI j).toInt = (j : Int) := nI_toInt (by omega)
  have h3 : ¬ (nI L - nI 7).toInt < (nI j).toInt := fun h => c (Int32.lt_iff_toInt_lt.mpr h)
  omega
theorem lwIn {L j : Nat} (d : Nat) (h : j + 7 ≤ L) (hd : d < 7 ∧ L < 2 ^ 31) : vp_in (nI j + nI d) L := by
  rw [nI_add]; exact vp_in_nI (by omega) hd.2
theorem lg_self (x : Int64) : lg_cmp x x = 0 := (lg_cmp_eq x x).mpr rfl
theorem nat_lt (x : Int32) : x.toNatClampNeg < 2 ^ 31 := by
  rw [Int32.toNatClampNeg]
  have := Int32.toInt_lt x
  omega
theorem odds_M {N : Nat} (h : N ≤ 6) : 2 ^ N - 1 < 64 := by have := mP2b h; omega
def oddsP (kd pl : Nat → Int32) (N : Nat) (wo su : Nat → Int32) (k : Nat) (z : Int32) : Prop := ∃ S, S < 2 ^ N ∧ z = nI S ∧ S.testBit k = true
theorem cw_M {cI cS : ClassId} {h1 : Nat} {Xw : va_W} {lf tr an pn gr rd : Int32} {so sl ces kd pl wt ask shw : Nat → Int32} {N Pn Rn : Nat} (hC : CW cI cS h1 Xw lf tr an pn gr rd so sl ces kd pl wt ask shw N Pn Rn) : rM N kd pl := by
  obtain ⟨_, _, _, _, _, _, _, _, _, _, _, _, _, _, _, _, _, _, _, _, _, _, _, _, _, _, _, _, _, _, _, _, _, _, _, _, _, _, _, hw, hsf, hA, hPp, hR, hS, hPl⟩ := hC
  exact rA_M hA
theorem mean_q {cI cS : ClassId} {h1 : Nat} {Xw : va_W} {lf tr an pn gr rd : Int32} {so sl ces kd pl wt ask shw : Nat → Int32} {N Pn Rn : Nat} {wo su : Nat → Int32} {se : Int32} (hC : CW cI cS h1 Xw lf tr an pn gr rd so sl ces kd pl wt ask shw N Pn Rn) (h : ¬ (fX4_isSet an se) = 0) : (fX4_findWorst kd pl wo su N se.toNatClampNeg).2 se.toNatClampNeg = nI ((fX4_findWorst kd pl wo su N se.toNatClampNeg).2 se.toNatClampNeg).toNatClampNeg := by
  have hM := cw_M hC
  obtain ⟨S, rfl, hS⟩ := mSet (cw_ha hC) (cw_hN hC) h
  have h64 := Nat.lt_of_lt_of_le hS (pow64 (cw_hN hC))
  have hu := (SX_some hM.1 (rM_sh hM) S hS).2.1
  rw [nI_clamp (by omega), (ref_tab hM hS (Nat.le_refl _)).2, nI_clamp (by omega)]
theorem mean_z {an se : Int32} {N : Nat} (ha : an = nI N) (hN : N ≤ 6) (h : ¬ (fX4_isSet an se) = 0) (h0 : ¬ se = 0) : fX4_size se.toNatClampNeg = nI (fX4_size se.toNatClampNeg).toNatClampNeg ∧ 0 < (fX4_size se.toNatClampNeg).toNatClampNeg := by
  obtain ⟨S, rfl, hS⟩ := mSet ha hN h
  have h64 := Nat.lt_of_lt_of_le hS (pow64 hN)
  rw [nI_clamp (by omega)]
  exact ⟨card_eq h64, card_pos h64 (Nat.pos_of_ne_zero (fun e => h0 (by rw [e]; rfl)))⟩
theorem odds_0 {cI cS : ClassId} {h1 : Nat} {Xw : va_W} {lf tr an pn gr rd : Int32} {so sl ces kd pl wt ask shw : Nat → Int32} {N Pn Rn : Nat} {wo su : Nat → Int32} (hC : CW cI cS h1 Xw lf tr an pn gr rd so sl ces kd pl wt ask shw N Pn Rn) : ∀ k, k < N → oddsP kd pl N wo su k ((1 <<< (an &&& 31)) - 1) := by
  intro k hk
  refine ⟨2 ^ N - 1, by have := Nat.pow_pos (a := 2) (n := N) (by decide); omega, mAll (cw_ha hC) (cw_hN hC), ?_⟩
  rw [Nat.testBit_two_pow_sub_one]; exact decide_eq_true hk
theorem odds_1 {cI cS : ClassId} {h1 : Nat} {Xw : va_W} {lf tr an pn gr rd : Int32} {so sl ces kd pl wt ask shw : Nat → Int32} {N Pn Rn : Nat} {wo su : Nat → Int32} (hC : CW cI cS h1 Xw lf tr an pn gr rd so sl ces kd pl wt ask shw N Pn Rn) : ∀ k, ∀ s9, oddsP kd pl N wo su k s9 → vp_in s9 64 := by
  rintro k s9 ⟨S, hS, rfl, -⟩
  exact vp_in_nI (Nat.lt_of_lt_of_le hS (pow64 (cw_hN hC))) (by decide)
theorem odds_2 {cI cS : ClassId} {h1 : Nat} {Xw : va_W} {lf tr an pn gr rd : Int32} {so sl ces kd pl wt ask shw : Nat → Int32} {N Pn Rn : Nat} {wo su : Nat → Int32} (hC : CW cI cS h1 Xw lf tr an pn gr rd so sl ces kd pl wt ask shw N Pn Rn) : ∀ k, ∀ s9, oddsP kd pl N wo su k s9 → vp_in (fX4_askOf kd pl (fX4_findWorst kd pl wo su N (2 ^ N - 1)).1 N s9) 6 := by
  rintro k s9 ⟨S, hS, rfl, ht⟩
  have hM := cw_M hC
  have h0 := pos_of_tb ht
  rw [askOf_eq hM hS (fun T hT => (ref_tab hM (by omega) (by omega)).1), if_neg (by omega)]
  exact vp_in_nI (by have := SF_lt hM hS h0; have := hM.1; omega) (by decide)
theorem odds_3 {cI cS : ClassId} {h1 : Nat} {Xw : va_W} {lf tr an pn gr rd : Int32} {so sl ces kd pl wt ask shw : Nat → Int32} {N Pn Rn : Nat} {wo su : Nat → Int32} (hC : CW cI cS h1 Xw lf tr an pn gr rd so sl ces kd pl wt ask shw N Pn Rn) : ∀ k, k < N → ∀ s9, oddsP kd pl N wo su k s9 → ¬ (fX4_askOf kd pl (fX4_findWorst kd pl wo su N (2 ^ N - 1)).1 N s9) = (nI k) → oddsP kd pl N wo su k (fX4_group kd pl N (fX4_askOf kd pl (fX4_findWorst kd pl wo su N (2 ^ N - 1)).1 N s9) (fX4_shownBy kd pl (fX4_askOf kd pl (fX4_findWorst kd pl wo su N (2 ^ N - 1)).1 N s9) (nI k)) s9) := by
  rintro k hk s9 ⟨S, hS, rfl, ht⟩ -
  have hM := cw_M hC
  have h0 := pos_of_tb ht
  rw [askOf_eq hM hS (fun T hT => (ref_tab hM (by omega) (by omega)).1), if_neg (by omega), group_eq hM.1 (Nat.lt_of_lt_of_le hS (pow64 hM.1))]
  have hg := grp_k hM (SF_lt hM hS h0) hk hS ht
  exact ⟨_, hg.1, rfl, hg.2⟩
