theorem L_secret (l : Launch) (D : va_G) (cI cS : ClassId) {h1 : Nat} {Xw : va_W} {lf tr an pn gr rd : Int32} {so sl ces kd pl wt ask shw : Nat → Int32} {N Pn Rn : Nat} (hC : CW cI cS h1 Xw lf tr an pn gr rd so sl ces kd pl wt ask shw N Pn Rn) {wo su xk xp xw : Nat → Int32} {ax ra rp rg : Int32} (a1 a2 a3 a4 : Int32) : LMi l yX3_secret wsX3_secret { frames := 4, cells := 0, slots := 0, locals := 90 } D cI cS Xw [.ref h1, .int a1, .int a2, .int a3, .int a4] ((fX4_secret an pn gr ax ra rp rg rd so sl ces kd pl wt xk xp xw (Nat.min 6 (fX4_readSecret ((60 * a1) + a3) rg ces xk xp xw (((60 * a1) + a3) + a4)).2.2.1.toNatClampNeg) (Nat.min 5 (fX4_readSecret ((60 * a1) + a3) rg ces xk xp xw (((60 * a1) + a3) + a4)).2.2.2.1.toNatClampNeg) a1 a2 a3 a4).1) (fun Xv => ∃ N2 P2 R2, CW cI cS h1 Xv ((fX4_secret an pn gr ax ra rp rg rd so sl ces kd pl wt xk xp xw (Nat.min 6 (fX4_readSecret ((60 * a1) + a3) rg ces xk xp xw (((60 * a1) + a3) + a4)).2.2.1.toNatClampNeg) (Nat.min 5 (fX4_readSecret ((60 * a1) + a3) rg ces xk xp xw (((60 * a1) + a3) + a4)).2.2.2.1.toNatClampNeg) a1 a2 a3 a4).2.1) tr ((fX4_secret an pn gr ax ra rp rg rd so sl ces kd pl wt xk xp xw (Nat.min 6 (fX4_readSecret ((60 * a1) + a3) rg ces xk xp xw (((60 * a1) + a3) + a4)).2.2.1.toNatClampNeg) (Nat.min 5 (fX4_readSecret ((60 * a1) + a3) rg ces xk xp xw (((60 * a1) + a3) + a4)).2.2.2.1.toNatClampNeg) a1 a2 a3 a4).2.2.2.2.2.2.2.2.2.1) ((fX4_secret an pn gr ax ra rp rg rd so sl ces kd pl wt xk xp xw (Nat.min 6 (fX4_readSecret ((60 * a1) + a3) rg ces xk xp xw (((60 * a1) + a3) + a4)).2.2.1.toNatClampNeg) (Nat.min 5 (fX4_readSecret ((60 * a1) + a3) rg ces xk xp xw (((60 * a1) + a3) + a4)).2.2.2.1.toNatClampNeg) a1 a2 a3 a4).2.2.2.2.2.2.2.2.2.2.2.2.2.1) ((fX4_secret an pn gr ax ra rp rg rd so sl ces kd pl wt xk xp xw (Nat.min 6 (fX4_readSecret ((60 * a1) + a3) rg ces xk xp xw (((60 * a1) + a3) + a4)).2.2.1.toNatClampNeg) (Nat.min 5 (fX4_readSecret ((60 * a1) + a3) rg ces xk xp xw (((60 * a1) + a3) + a4)).2.2.2.1.toNatClampNeg) a1 a2 a3 a4).2.2.2.2.2.2.2.2.2.2.2.2.1) ((fX4_secret an pn gr ax ra rp rg rd so sl ces kd pl wt xk xp xw (Nat.min 6 (fX4_readSecret ((60 * a1) + a3) rg ces xk xp xw (((60 * a1) + a3) + a4)).2.2.1.toNatClampNeg) (Nat.min 5 (fX4_readSecret ((60 * a1) + a3) rg ces xk xp xw (((60 * a1) + a3) + a4)).2.2.2.1.toNatClampNeg) a1 a2 a3 a4).2.2.2.2.2.2.2.2.2.2.2.2.2.2.2) so sl ces ((fX4_secret an pn gr ax ra rp rg rd so sl ces kd pl wt xk xp xw (Nat.min 6 (fX4_readSecret ((60 * a1) + a3) rg ces xk xp xw (((60 * a1) + a3) + a4)).2.2.1.toNatClampNeg) (Nat.min 5 (fX4_readSecret ((60 * a1) + a3) rg ces xk xp xw (((60 * a1) + a3) + a4)).2.2.2.1.toNatClampNeg) a1 a2 a3 a4).2.2.2.2.2.2.2.2.2.2.1) ((fX4_secret an pn gr ax ra rp rg rd so sl ces kd pl wt xk xp xw (Nat.min 6 (fX4_readSecret ((60 * a1) + a3) rg ces xk xp xw (((60 * a1) + a3) + a4)).2.2.1.toNatClampNeg) (Nat.min 5 (fX4_readSecret ((60 * a1) + a3) rg ces xk xp xw (((60 * a1) + a3) + a4)).2.2.2.1.toNatClampNeg) a1 a2 a3 a4).2.2.2.2.2.2.2.2.2.2.2.1) ((fX4_secret an pn gr ax ra rp rg rd so sl ces kd pl wt xk xp xw (Nat.min 6 (fX4_readSecret ((60 * a1) + a3) rg ces xk xp xw (((60 * a1) + a3) + a4)).2.2.1.toNatClampNeg) (Nat.min 5 (fX4_readSecret ((60 * a1) + a3) rg ces xk xp xw (((60 * a1) + a3) + a4)).2.2.2.1.toNatClampNeg) a1 a2 a3 a4).2.2.2.2.2.2.2.2.2.2.2.2.2.2.1) ask shw N2 P2 R2) := by
  have hC0 := hC
  obtain ⟨saC, p0C, aaC, abC, q0C, q1C, q2C, q3C, b0C, b1C, b2C, b3C, p1C, p2C, p3C, p4C, soC, scC, sfC, oldC, askC, shwC, kdC, plC, wtC, banC, bpnC, bgrC, bkdC, bplC, bwtC, alC, woC, fiC, niC, paC, laC, leC, ceC, hw, hsf, hA, hPp, hR, hS, hPl⟩ := hC
  subst hw
  rcases shCases a1 with ⟨hsh, hso⟩ | ⟨j, hj, hjj, hsh, hs0, hs1, hcl⟩
  · rw [secret_n hsh]
    exact LMi.c17 (c_X3_secret_n l D cI cS h1 saC p0C aaC abC q0C q1C q2C q3C b0C b1C b2C b3C p1C p2C p3C p4C sfC oldC rd tr lf askC shwC an pn gr kdC plC wtC banC bpnC bgrC bkdC bplC bwtC alC woC fiC niC paC a1 a2 a3 a4 hso) rfl ⟨N, Pn, Rn, ⟨saC, p0C, aaC, abC, q0C, q1C, q2C, q3C, b0C, b1C, b2C, b3C, p1C, p2C, p3C, p4C, soC, scC, sfC, oldC, askC, shwC, kdC, plC, wtC, banC, bpnC, bgrC, bkdC, bplC, bwtC, alC, woC, fiC, niC, paC, laC, leC, ceC, rfl, hsf, hA, hPp, hR, hS, hPl⟩⟩
  · obtain ⟨Le, hLe, hle⟩ := rS_le hS hj
    by_cases ht : Taken bgrC bkdC bplC bwtC (laC j) (leC j) (ceC j) a2 a3 a4
    · have c := c_X3_secret_k l D cI cS h1 saC p0C aaC abC q0C q1C q2C q3C b0C b1C b2C b3C p1C p2C p3C p4C (soC j) (scC j) sfC oldC rd tr lf askC shwC an pn gr kdC plC wtC banC bpnC bgrC bkdC bplC bwtC alC woC fiC niC paC (laC j) (leC j) (ceC j) Le a1 a2 a3 a4 hs0 hs1 (by rw [hcl]; exact hsf j hj) hle hLe ht.1 ht.2.1 ht.2.2.1 ht.2.2.2.1 ht.2.2.2.2
      subst hjj
      obtain ⟨m, q, g, kd', pl', wt', mkd', mpl', mwt', ax', ra', rp', rg', xk', xp', xw', q1, q2, q3, q4⟩ := e_secret_k (an := an) (pn := pn) (gr := gr) (ax := ax) (ra := ra) (rp := rp) (rg := rg) (rd := rd) (kd := kd) (pl := pl) (wt := wt) (xk := xk) (xp := xp) (xw := xw) hS hj ht rfl rfl
      rw [q1] at c
      rw [q2]
      refine LMi.sw (W2 := wL25 cI cS h1 saC p0C aaC abC b0C b1C b2C b3C q0C q1C q2C q3C p1C p2C p3C p4C soC scC sfC 1 0 tr 0 askC shwC (nI m) (nI q) g kd' pl' wt' an pn gr kdC plC wtC alC woC fiC niC paC laC leC ceC) hj c rfl rfl ?_
      exact ⟨m, q, 0, saC, p0C, aaC, abC, b0C, b1C, b2C, b3C, q0C, q1C, q2C, q3C, p1C, p2C, p3C, p4C, soC, scC, sfC, 1, askC, shwC, kd', pl', wt', an, pn, gr, kdC, plC, wtC, alC, woC, fiC, niC, paC, laC, leC, ceC, rfl, hsf, q3, q4, ⟨rfl, by decide, fun _ h => absurd h (Nat.not_lt_zero _)⟩, hS, ⟨hPl.1, hPl.2.1, .inl rfl⟩⟩
    · have c := c_X3_secret_s l D cI cS h1 saC p0C aaC abC q0C q1C q2C q3C b0C b1C b2C b3C p1C p2C p3C p4C (soC j) (scC j) sfC oldC rd tr lf askC shwC an pn gr kdC plC wtC banC bpnC bgrC bkdC bplC bwtC alC woC fiC niC paC (laC j) (leC j) (ceC j) Le a1 a2 a3 a4 hs0 hs1 (by rw [hcl]; exact hsf j hj) hle hLe (fun g1 g2 g3 g4 g5 => ht ⟨g1, g2, g3, g4, g5⟩)
      subst hjj
      obtain ⟨ax', ra', rp', rg', xk', xp', xw', q2⟩ := e_secret_s (an := an) (pn := pn) (gr := gr) (ax := ax) (ra := ra) (rp := rp) (rg := rg) (rd := rd) (kd := kd) (pl := pl) (wt := wt) (xk := xk) (xp := xp) (xw := xw) (ban := banC) (bpn := bpnC) hS hj ht
      rw [q2]
      refine LMi.c19 hj c rfl ?_
      rw [updG_same, updG_same, updG_same]
      exact ⟨N, Pn, Rn, ⟨saC, p0C, aaC, abC, q0C, q1C, q2C, q3C, b0C, b1C, b2C, b3C, p1C, p2C, p3C, p4C, soC, scC, sfC, oldC, askC, shwC, kdC, plC, wtC, _, _, _, _, _, _, alC, woC, fiC, niC, paC, laC, leC, ceC, rfl, hsf, hA, hPp, hR, hS, hPl⟩⟩
theorem L_ofAnswer (l : Launch) (D : va_G) (cI cS : ClassId) {h1 : Nat} {Xw : va_W} {lf tr an pn gr rd : Int32} {so sl ces kd pl wt ask shw : Nat → Int32} {N Pn Rn : Nat} (hC : CW cI cS h1 Xw lf tr an pn gr rd so sl ces kd pl wt ask shw N Pn Rn) {wo su xk xp xw : Nat → Int32} {ax ra rp rg : Int32} (a1 a2 : Int32) : LMi l yX3_ofAnswer wsX3_ofAnswer { frames := 2, cells := 0, slots := 0, locals := 42 } D cI cS Xw [.ref h1, .int a1, .int a2] (fX4_ofAnswer an kd pl a1 a2) (fun Xv => ∃ N2 P2 R2, CW cI cS h1 Xv lf tr an pn gr rd so sl ces kd pl wt ask shw N2 P2 R2) := by
  have hC0 := hC
  obtain ⟨saC, p0C, aaC, abC, q0C, q1C, q2C, q3C, b0C, b1C, b2C, b3C, p1C, p2C, p3C, p4C, soC, scC, sfC, oldC, askC, shwC, kdC, plC, wtC, banC, bpnC, bgrC, bkdC, bplC, bwtC, alC, woC, fiC, niC, paC, laC, leC, ceC, hw, hsf, hA, hPp, hR, hS, hPl⟩ := hC
  subst hw
  exact LMi.p17 (c_X3_ofAnswer l D cI cS h1 saC p0C aaC abC q0C q1C q2C q3C b0C b1C b2C b3C p1C p2C p3C p4C sfC oldC rd tr lf askC shwC an pn gr kdC plC wtC banC bpnC bgrC bkdC bplC bwtC alC woC fiC niC paC a1 a2) (e_ofAnswer hA a1 a2) ⟨N, Pn, Rn, hC0⟩
theorem L_move (l : Launch) (D : va_G) (cI cS : ClassId) {h1 : Nat} {Xw : va_W} {lf tr an pn gr rd : Int32} {so sl ces kd pl wt ask shw : Nat → Int32} {N Pn Rn : Nat} (hC : CW cI cS h1 Xw lf tr an pn gr rd so sl ces kd pl wt ask shw N Pn Rn) {wo su xk xp xw : Nat → Int32} {ax ra rp rg : Int32} (a1 a2 : Int32) : LMi l yX3_move wsX3_move { frames := 2, cells := 0, slots := 0, locals := 44 } D cI cS Xw [.ref h1, .int a1, .int a2] ((fX4_move an pl a1 a2).1) (fun Xv => ∃ N2 P2 R2, CW cI cS h1 Xv lf tr an pn gr rd so sl ces kd ((fX4_move an pl a1 a2).2) wt ask shw N2 P2 R2) := by
  have hC0 := hC
  obtain ⟨saC, p0C, aaC, abC, q0C, q1C, q2C, q3C, b0C, b1C, b2C, b3C, p1C, p2C, p3C, p4C, soC, scC, sfC, oldC, askC, shwC, kdC, plC, wtC, banC, bpnC, bgrC, bkdC, bplC, bwtC, alC, woC, fiC, niC, paC, laC, leC, ceC, hw, hsf, hA, hPp, hR, hS, hPl⟩ := hC
  subst hw
  have c := c_X3_move l D cI cS h1 saC p0C aaC abC q0C q1C q2C q3C b0C b1C b2C b3C p1C p2C p3C p4C sfC oldC rd tr lf askC shwC an pn gr kdC plC wtC banC bpnC bgrC bkdC bplC bwtC alC woC fiC niC paC a1 a2
  have hm := (e_move (old := oldC) hA a1 a2).2
  exact LMi.c17 c (e_move hA a1 a2).1 ⟨N, Pn, Rn, ⟨saC, p0C, aaC, abC, q0C, q1C, q2C, q3C, b0C, b1C, b2C, b3C, p1C, p2C, p3C, p4C, soC, scC, sfC, _, askC, shwC, kdC, _, wtC, banC, bpnC, bgrC, bkdC, bplC, bwtC, alC, woC, fiC, niC, paC, laC, leC, ceC, rfl, hsf, hm.1, hPp, hR, hS, (rPl_move hPl hm.2)⟩⟩
theorem L_grow (l : Launch) (D : va_G) (cI cS : ClassId) {h1 : Nat} {Xw : va_W} {lf tr an pn gr rd : Int32} {so sl ces kd pl wt ask shw : Nat → Int32} {N Pn Rn : Nat} (hC : CW cI cS h1 Xw lf tr an pn gr rd so sl ces kd pl wt ask shw N Pn Rn) {wo su xk xp xw : Nat → Int32} {ax ra rp rg : Int32} (a1 : Int32) : LMi l yX3_grow wsX3_grow { frames := 2, cells := 0, slots := 0, locals := 40 } D cI cS Xw [.ref h1, .int a1] ((fX4_grow an gr a1).1) (fun Xv => ∃ N2 P2 R2, CW cI cS h1 Xv lf tr an pn ((fX4_grow an gr a1).2) rd so sl ces kd pl wt ask shw N2 P2 R2) := by
  have hC0 := hC
  obtain ⟨saC, p0C, aaC, abC, q0C, q1C, q2C, q3C, b0C, b1C, b2C, b3C, p1C, p2C, p3C, p4C, soC, scC, sfC, oldC, askC, shwC, kdC, plC, wtC, banC, bpnC, bgrC, bkdC, bplC, bwtC, alC, woC, fiC, niC, paC, laC, leC, ceC, hw, hsf, hA, hPp, hR, hS, hPl⟩ := hC
  subst hw
  have c := c_X3_grow l D cI cS h1 saC p0C aaC abC q0C q1C q2C q3C b0C b1C b2C b3C p1C p2C p3C p4C sfC oldC rd tr lf askC shwC an pn gr kdC plC wtC banC bpnC bgrC bkdC bplC bwtC alC woC fiC niC paC a1
  rw [← e_grow an gr a1]
  exact LMi.c17 c rfl ⟨N, Pn, Rn, ⟨saC, p0C, aaC, abC, q0C, q1C, q2C, q3C, b0C, b1C, b2C, b3C, p1C, p2C, p3C, p4C, soC, scC, sfC, oldC, askC, shwC, kdC, plC, wtC, banC, bpnC, bgrC, bkdC, bplC, bwtC, alC, woC, fiC, niC, paC, laC, leC, ceC, rfl, hsf, hA, hPp, hR, hS, hPl⟩⟩
theorem L_shown (l : Launch) (D : va_G) (cI cS : ClassId) {h1 : Nat} {Xw : va_W} {lf tr an pn gr rd : Int32} {so sl ces kd pl wt ask shw : Nat → Int32} {N Pn Rn : Nat} (hC : CW cI cS h1 Xw lf tr an pn gr rd so sl ces kd pl wt ask shw N Pn Rn) {wo su xk xp xw : Nat → Int32} {ax ra rp rg : Int32} (a1 a2 : Int32) : LMi l yX3_shown wsX3_shown { frames := 2, cells := 0, slots := 0, locals := 44 } D cI cS Xw [.ref h1, .int a1, .int a2] (fX4_shown an kd pl a1 a2) (fun Xv => ∃ N2 P2 R2, CW cI cS h1 Xv lf tr an pn gr rd so sl ces kd pl wt ask shw N2 P2 R2) := by
  have hC0 := hC
  obtain ⟨saC, p0C, aaC, abC, q0C, q1C, q2C, q3C, b0C, b1C, b2C, b3C, p1C, p2C, p3C, p4C, soC, scC, sfC, oldC, askC, shwC, kdC, plC, wtC, banC, bpnC, bgrC, bkdC, bplC, bwtC, alC, woC, fiC, niC, paC, laC, leC, ceC, hw, hsf, hA, hPp, hR, hS, hPl⟩ := hC
  subst hw
  exact LMi.p17 (c_X3_shown l D cI cS h1 saC p0C aaC abC q0C q1C q2C q3C b0C b1C b2C b3C p1C p2C p3C p4C sfC oldC rd tr lf askC shwC an pn gr kdC plC wtC banC bpnC bgrC bkdC bplC bwtC alC woC fiC niC paC a1 a2) (e_shown hA a1 a2) ⟨N, Pn, Rn, hC0⟩
theorem L_nights (l : Launch) (D : va_G) (cI cS : ClassId) {h1 : Nat} {Xw : va_W} {lf tr an pn gr rd : Int32} {so sl ces kd pl wt ask shw : Nat → Int32} {N Pn Rn : Nat} (hC : CW cI cS h1 Xw lf tr an pn gr rd so sl ces kd pl wt ask shw N Pn Rn) {wo su xk xp xw : Nat → Int32} {ax ra rp rg : Int32} (a1 a2 a3 a4 a5 a6 : Int32) : LMi l yX3_nights wsX3_nights { frames := 4, cells := 0, slots := 0, locals := 95 } D cI cS Xw [.ref h1, .int a1, .int a2, .int a3, .int a4, .int a5, .int a6] ((fX4_nights an so sl ces kd pl N a1 a2 a3 a4 a5 a6).1) (fun Xv => ∃ N2 P2 R2, CW cI cS h1 Xv ((fX4_nights an so sl ces kd pl N a1 a2 a3 a4 a5 a6).2) tr an pn gr rd so sl ces kd pl wt ask shw N2 P2 R2) := by
  have hC0 := hC
  obtain ⟨saC, p0C, aaC, abC, q0C, q1C, q2C, q3C, b0C, b1C, b2C, b3C, p1C, p2C, p3C, p4C, soC, scC, sfC, oldC, askC, shwC, kdC, plC, wtC, banC, bpnC, bgrC, bkdC, bplC, bwtC, alC, woC, fiC, niC, paC, laC, leC, ceC, hw, hsf, hA, hPp, hR, hS, hPl⟩ := hC
  subst hw
  rcases shCases a2 with ⟨hsh, hso⟩ | ⟨j, hj, hjj, hsh, hs0, hs1, hcl⟩
  · rw [nights_n hsh]
    have c := c_X3_nights_n l D cI cS h1 saC p0C aaC abC q0C q1C q2C q3C b0C b1C b2C b3C p1C p2C p3C p4C sfC oldC rd tr lf askC shwC an pn gr kdC plC wtC banC bpnC bgrC bkdC bplC bwtC alC woC fiC niC paC a1 a2 a3 a4 a5 a6 hso
    rw [nights_nc] at c
    exact LMi.c17 c rfl ⟨N, Pn, Rn, ⟨saC, p0C, aaC, abC, q0C, q1C, q2C, q3C, b0C, b1C, b2C, b3C, p1C, p2C, p3C, p4C, soC, scC, sfC, oldC, askC, shwC, kdC, plC, wtC, banC, bpnC, bgrC, bkdC, bplC, bwtC, alC, woC, fiC, niC, paC, laC, leC, ceC, rfl, hsf, hA, hPp, hR, hS, hPl⟩⟩
  · have c := (rS_le hS hj)
    obtain ⟨Le, hLe, hle⟩ := c
    have c := c_X3_nights_s l D cI cS h1 saC p0C aaC abC q0C q1C q2C q3C b0C b1C b2C b3C p1C p2C p3C p4C (soC j) (scC j) sfC oldC rd tr lf askC shwC an pn gr kdC plC wtC banC bpnC bgrC bkdC bplC bwtC alC woC fiC niC paC (laC j) (leC j) (ceC j) Le N a1 a2 a3 a4 a5 a6 hs0 hs1 (by rw [hcl]; exact hsf j hj) hle hLe hA.1 hA.2.1
    subst hjj
    rw [e_nights hA hS hj a1 a3 a4 a5 a6] at c
    refine LMi.c19 hj c rfl ?_
    rw [updG_same, updG_same, updG_same]
    exact ⟨N, Pn, Rn, ⟨saC, p0C, aaC, abC, q0C, q1C, q2C, q3C, b0C, b1C, b2C, b3C, p1C, p2C, p3C, p4C, soC, scC, sfC, oldC, askC, shwC, kdC, plC, wtC, banC, bpnC, bgrC, bkdC, bplC, bwtC, alC, woC, fiC, niC, paC, laC, leC, ceC, rfl, hsf, hA, hPp, hR, hS, hPl⟩⟩
theorem L_worst (l : Launch) (D : va_G) (cI cS : ClassId) {h1 : Nat} {Xw : va_W} {lf tr an pn gr rd : Int32} {so sl ces kd pl wt ask shw : Nat → Int32} {N Pn Rn : Nat} (hC : CW cI cS h1 Xw lf tr an pn gr rd so sl ces kd pl wt ask shw N Pn Rn) {wo su xk xp xw : Nat → Int32} {ax ra rp rg : Int32} (a1 : Int32) : LMi l yX3_worst wsX3_worst { frames := 5, cells := 0, slots := 0, locals := 112 } D cI cS Xw [.ref h1, .int a1] ((fX4_worst an kd pl wo su N a1).1) (fun Xv => ∃ N2 P2 R2, CW cI cS h1 Xv lf tr an pn gr rd so sl ces kd pl wt ask shw N2 P2 R2) := by
  have hC0 := hC
  obtain ⟨saC, p0C, aaC, abC, q0C, q1C, q2C, q3C, b0C, b1C, b2C, b3C, p1C, p2C, p3C, p4C, soC, scC, sfC, oldC, askC, shwC, kdC, plC, wtC, banC, bpnC, bgrC, bkdC, bplC, bwtC, alC, woC, fiC, niC, paC, laC, leC, ceC, hw, hsf, hA, hPp, hR, hS, hPl⟩ := hC
  subst hw
  have c := c_X3_worst l D cI cS h1 saC p0C aaC abC q0C q1C q2C q3C b0C b1C b2C b3C p1C p2C p3C p4C sfC oldC rd tr lf askC shwC an pn gr kdC plC wtC banC bpnC bgrC bkdC bplC bwtC alC woC fiC niC paC N (2 ^ N - 1) a1 hA.1 hA.2.1 (mAll hA.1 hA.2.1) (odds_M hA.2.1)
  exact LMi.c17 c (e_worst hA hPl a1) ⟨N, Pn, Rn, ⟨saC, p0C, aaC, abC, q0C, q1C, q2C, q3C, b0C, b1C, b2C, b3C, p1C, p2C, p3C, p4C, soC, scC, sfC, _, askC, shwC, kdC, plC, wtC, banC, bpnC, bgrC, bkdC, bplC, bwtC, _, _, _, _, _, laC, leC, ceC, rfl, hsf, hA, hPp, hR, hS, (worst_rel hA hPl a1)⟩⟩
theorem L_ask (l : Launch) (D : va_G) (cI cS : ClassId) {h1 : Nat} {Xw : va_W} {lf tr an pn gr rd : Int32} {so sl ces kd pl wt ask shw : Nat → Int32} {N Pn Rn : Nat} (hC : CW cI cS h1 Xw lf tr an pn gr rd so sl ces kd pl wt ask shw N Pn Rn) {wo su xk xp xw : Nat → Int32} {ax ra rp rg : Int32} (a1 : Int32) : LMi l yX3_ask wsX3_ask { frames := 5, cells := 0, slots := 0, locals := 112 } D cI cS Xw [.ref h1, .int a1] ((fX4_ask an kd pl wo su N a1).1) (fun Xv => ∃ N2 P2 R2, CW cI cS h1 Xv lf tr an pn gr rd so sl ces kd pl wt ask shw N2 P2 R2) := by
  have hC0 := hC
  obtain ⟨saC, p0C, aaC, abC, q0C, q1C, q2C, q3C, b0C, b1C, b2C, b3C, p1C, p2C, p3C, p4C, soC, scC, sfC, oldC, askC, shwC, kdC, plC, wtC, banC, bpnC, bgrC, bkdC, bplC, bwtC, alC, woC, fiC, niC, paC, laC, leC, ceC, hw, hsf, hA, hPp, hR, hS, hPl⟩ := hC
  subst hw
  have c := c_X3_ask l D cI cS h1 saC p0C aaC abC q0C q1C q2C q3C b0C b1C b2C b3C p1C p2C p3C p4C sfC oldC rd tr lf askC shwC an pn gr kdC plC wtC banC bpnC bgrC bkdC bplC bwtC alC woC fiC niC paC N (2 ^ N - 1) a1 hA.1 hA.2.1 (mAll hA.1 hA.2.1) (odds_M hA.2.1)
  exact LMi.c17 c (e_ask hA hPl a1) ⟨N, Pn, Rn, ⟨saC, p0C, aaC, abC, q0C, q1C, q2C, q3C, b0C, b1C, b2C, b3C, p1C, p2C, p3C, p4C, soC, scC, sfC, _, askC, shwC, kdC, plC, wtC, banC, bpnC, bgrC, bkdC, bplC, bwtC, _, _, _, _, _, laC, leC, ceC, rfl, hsf, hA, hPp, hR, hS, (ask_rel hA hPl a1)⟩⟩
theorem L_mean (l : Launch) (D : va_G) (cI cS : ClassId) {h1 : Nat} {Xw : va_W} {lf tr an pn gr rd : Int32} {so sl ces kd pl wt ask shw : Nat → Int32} {N Pn Rn : Nat} (hC : CW cI cS h1 Xw lf tr an pn gr rd so sl ces kd pl wt ask shw N Pn Rn) {wo su xk xp xw : Nat → Int32} {ax ra rp rg : Int32} (a1 a2 : Int32) : LMl l yX3_mean wsX3_mean { frames := 5, cells := 0, slots := 0, locals := 112 } D cI cS Xw [.ref h1, .int a1, .int a2] ((fX4_mean an kd pl wo su N (((fX4_findWorst kd pl wo su N a1.toNatClampNeg).2 a1.toNatClampNeg).toNatClampNeg) ((fX4_size a1.toNatClampNeg).toNatClampNeg) a1 a2).1) (fun Xv => ∃ N2 P2 R2, CW cI cS h1 Xv lf tr an pn gr rd so sl ces kd pl wt ask shw N2 P2 R2) := by
  have hC0 := hC
  obtain ⟨saC, p0C, aaC, abC, q0C, q1C, q2C, q3C, b0C, b1C, b2C, b3C, p1C, p2C, p3C, p4C, soC, scC, sfC, oldC, askC, shwC, kdC, plC, wtC, banC, bpnC, bgrC, bkdC, bplC, bwtC, alC, woC, fiC, niC, paC, laC, leC, ceC, hw, hsf, hA, hPp, hR, hS, hPl⟩ := hC
  subst hw
  have hB : ¬ fX3_isSetOf an a1 = 0 → fJ6_bitCount_0f7a4 a1 = nI (fJ6_bitCount_0f7a4 a1).toNatClampNeg := fun h => by
    obtain ⟨S, rfl, hS⟩ := mSet hA.1 hA.2.1 (show ¬ fX4_isSet an a1 = 0 from h)
    have h64 := Nat.lt_of_lt_of_le hS (pow64 hA.2.1)
    have := card_le h64
    rw [card_bc h64, nI_clamp (by omega)]
  have c := c_X3_mean l D cI cS h1 saC p0C aaC abC q0C q1C q2C q3C b0C b1C b2C b3C p1C p2C p3C p4C sfC oldC rd tr lf askC shwC an pn gr kdC plC wtC banC bpnC bgrC bkdC bplC bwtC alC woC fiC niC paC N (2 ^ N - 1) ((fJ6_bitCount_0f7a4 a1).toNatClampNeg) a1 a2 hA.1 hA.2.1 (mAll hA.1 hA.2.1) (odds_M hA.2.1) hB (nat_lt _)
  exact LMl.c17 c (e_mean hA hPl a1 a2 (fun h => ⟨hB h, nat_lt _⟩)) ⟨N, Pn, Rn, ⟨saC, p0C, aaC, abC, q0C, q1C, q2C, q3C, b0C, b1C, b2C, b3C, p1C, p2C, p3C, p4C, soC, scC, sfC, _, askC, shwC, kdC, plC, wtC, banC, bpnC, bgrC, bkdC, bplC, bwtC, _, _, _, _, _, laC, leC, ceC, rfl, hsf, hA, hPp, hR, hS, (mean_rel hA hPl _ a1 a2)⟩⟩
theorem L_parts (l : Launch) (D : va_G) (cI cS : ClassId) {h1 : Nat} {Xw : va_W} {lf tr an pn gr rd : Int32} {so sl ces kd pl wt ask shw : Nat → Int32} {N Pn Rn : Nat} (hC : CW cI cS h1 Xw lf tr an pn gr rd so sl ces kd pl wt ask shw N Pn Rn) {wo su xk xp xw : Nat → Int32} {ax ra rp rg : Int32} (a1 a2 : Int32) : LMi l yX3_parts wsX3_parts { frames := 3, cells := 0, slots := 0, locals := 69 } D cI cS Xw [.ref h1, .int a1, .int a2] (fX4_parts an kd pl N a1 a2) (fun Xv => ∃ N2 P2 R2, CW cI cS h1 Xv lf tr an pn gr rd so sl ces kd pl wt ask shw N2 P2 R2) := by
  have hC0 := hC
  obtain ⟨saC, p0C, aaC, abC, q0C, q1C, q2C, q3C, b0C, b1C, b2C, b3C, p1C, p2C, p3C, p4C, soC, scC, sfC, oldC, askC, shwC, kdC, plC, wtC, banC, bpnC, bgrC, bkdC, bplC, bwtC, alC, woC, fiC, niC, paC, laC, leC, ceC, hw, hsf, hA, hPp, hR, hS, hPl⟩ := hC
  subst hw
  exact LMi.p17 (c_X3_parts l D cI cS h1 saC p0C aaC abC q0C q1C q2C q3C b0C b1C b2C b3C p1C p2C p3C p4C sfC oldC rd tr lf askC shwC an pn gr kdC plC wtC banC bpnC bgrC bkdC bplC bwtC alC woC fiC niC paC N a1 a2 hA.1 hA.2.1) (e_parts hA a1 a2) ⟨N, Pn, Rn, hC0⟩
theorem L_months (l : Launch) (D : va_G) (cI cS : ClassId) {h1 : Nat} {Xw : va_W} {lf tr an pn gr rd : Int32} {so sl ces kd pl wt ask shw : Nat → Int32} {N Pn Rn : Nat} (hC : CW cI cS h1 Xw lf tr an pn gr rd so sl ces kd pl wt ask shw N Pn Rn) {wo su xk xp xw : Nat → Int32} {ax ra rp rg : Int32} (a1 : Int32) : LMi l yX3_months wsX3_months { frames := 2, cells := 0, slots := 0, locals := 42 } D cI cS Xw [.ref h1, .int a1] (fX4_months an pn gr wt Pn a1) (fun Xv => ∃ N2 P2 R2, CW cI cS h1 Xv lf tr an pn gr rd so sl ces kd pl wt ask shw N2 P2 R2) := by
  have hC0 := hC
  obtain ⟨saC, p0C, aaC, abC, q0C, q1C, q2C, q3C, b0C, b1C, b2C, b3C, p1C, p2C, p3C, p4C, soC, scC, sfC, oldC, askC, shwC, kdC, plC, wtC, banC, bpnC, bgrC, bkdC, bplC, bwtC, alC, woC, fiC, niC, paC, laC, leC, ceC, hw, hsf, hA, hPp, hR, hS, hPl⟩ := hC
  subst hw
  exact LMi.p17 (c_X3_months l D cI cS h1 saC p0C aaC abC q0C q1C q2C q3C b0C b1C b2C b3C p1C p2C p3C p4C sfC oldC rd tr lf askC shwC an pn gr kdC plC wtC banC bpnC bgrC bkdC bplC bwtC alC woC fiC niC paC Pn a1 hPp.1 hPp.2.1) (e_months hPp a1) ⟨N, Pn, Rn, hC0⟩
theorem L_down (l : Launch) (D : va_G) (cI cS : ClassId) {h1 : Nat} {Xw : va_W} {lf tr an pn gr rd : Int32} {so sl ces kd pl wt ask shw : Nat → Int32} {N Pn Rn : Nat} (hC : CW cI cS h1 Xw lf tr an pn gr rd so sl ces kd pl wt ask shw N Pn Rn) {wo su xk xp xw : Nat → Int32} {ax ra rp rg : Int32} (a1 : Int32) : LMi l yX3_down wsX3_down { frames := 2, cells := 0, slots := 0, locals := 42 } D cI cS Xw [.ref h1, .int a1] (fX4_down an gr wt Pn a1) (fun Xv => ∃ N2 P2 R2, CW cI cS h1 Xv lf tr an pn gr rd so sl ces kd pl wt ask shw N2 P2 R2) := by
  have hC0 := hC
  obtain ⟨saC, p0C, aaC, abC, q0C, q1C, q2C, q3C, b0C, b1C, b2C, b3C, p1C, p2C, p3C, p4C, soC, scC, sfC, oldC, askC, shwC, kdC, plC, wtC, banC, bpnC, bgrC, bkdC, bplC, bwtC, alC, woC, fiC, niC, paC, laC, leC, ceC, hw, hsf, hA, hPp, hR, hS, hPl⟩ := hC
  subst hw
  exact LMi.p17 (c_X3_down l D cI cS h1 saC p0C aaC abC q0C q1C q2C q3C b0C b1C b2C b3C p1C p2C p3C p4C sfC oldC rd tr lf askC shwC an pn gr kdC plC wtC banC bpnC bgrC bkdC bplC bwtC alC woC fiC niC paC Pn a1 hPp.1 hPp.2.1) (e_down hPp a1) ⟨N, Pn, Rn, hC0⟩
theorem L_reading (l : Launch) (D : va_G) (cI cS : ClassId) {h1 : Nat} {Xw : va_W} {lf tr an pn gr rd : Int32} {so sl ces kd pl wt ask shw : Nat → Int32} {N Pn Rn : Nat} (hC : CW cI cS h1 Xw lf tr an pn gr rd so sl ces kd pl wt ask shw N Pn Rn) {wo su xk xp xw : Nat → Int32} {ax ra rp rg : Int32} (a1 a2 : Int32) : LMi l yX3_reading wsX3_reading { frames := 2, cells := 0, slots := 0, locals := 41 } D cI cS Xw [.ref h1, .int a1, .int a2] ((fX4_reading an rd ask shw a1 a2).1) (fun Xv => ∃ N2 P2 R2, CW cI cS h1 Xv lf tr an pn gr ((fX4_reading an rd ask shw a1 a2).2.1) so sl ces kd pl wt ((fX4_reading an rd ask shw a1 a2).2.2.1) ((fX4_reading an rd ask shw a1 a2).2.2.2) N2 P2 R2) := by
  have hC0 := hC
  obtain ⟨saC, p0C, aaC, abC, q0C, q1C, q2C, q3C, b0C, b1C, b2C, b3C, p1C, p2C, p3C, p4C, soC, scC, sfC, oldC, askC, shwC, kdC, plC, wtC, banC, bpnC, bgrC, bkdC, bplC, bwtC, alC, woC, fiC, niC, paC, laC, leC, ceC, hw, hsf, hA, hPp, hR, hS, hPl⟩ := hC
  subst hw
  have c := c_X3_reading l D cI cS h1 saC p0C aaC abC q0C q1C q2C q3C b0C b1C b2C b3C p1C p2C p3C p4C sfC oldC rd tr lf askC shwC an pn gr kdC plC wtC banC bpnC bgrC bkdC bplC bwtC alC woC fiC niC paC a1 a2
  obtain ⟨q1, q2, R2, hR2⟩ := e_reading hA hR a1 a2
  rw [q2] at c
  exact LMi.c17 c q1 ⟨N, Pn, R2, ⟨saC, p0C, aaC, abC, q0C, q1C, q2C, q3C, b0C, b1C, b2C, b3C, p1C, p2C, p3C, p4C, soC, scC, sfC, oldC, _, _, kdC, plC, wtC, banC, bpnC, bgrC, bkdC, bplC, bwtC, alC, woC, fiC, niC, paC, laC, leC, ceC, rfl, hsf, hA, hPp, hR2, hS, hPl⟩⟩
theorem L_back (l : Launch) (D : va_G) (cI cS : ClassId) {h1 : Nat} {Xw : va_W} {lf tr an pn gr rd : Int32} {so sl ces kd pl wt ask shw : Nat → Int32} {N Pn Rn : Nat} (hC : CW cI cS h1 Xw lf tr an pn gr rd so sl ces kd pl wt ask shw N Pn Rn) {wo su xk xp xw : Nat → Int32} {ax ra rp rg : Int32} (a1 : Int32) : LMi l yX3_back wsX3_back { frames := 1, cells := 0, slots := 0, locals := 21 } D cI cS Xw [.ref h1, .int a1] ((fX4_back rd a1).1) (fun Xv => ∃ N2 P2 R2, CW cI cS h1 Xv lf tr an pn gr ((fX4_back rd a1).2) so sl ces kd pl wt ask shw N2 P2 R2) := by
  have hC0 := hC
  obtain ⟨saC, p0C, aaC, abC, q0C, q1C, q2C, q3C, b0C, b1C, b2C, b3C, p1C, p2C, p3C, p4C, soC, scC, sfC, oldC, askC, shwC, kdC, plC, wtC, banC, bpnC, bgrC, bkdC, bplC, bwtC, alC, woC, fiC, niC, paC, laC, leC, ceC, hw, hsf, hA, hPp, hR, hS, hPl⟩ := hC
  subst hw
  have c := c_X3_back l D cI cS h1 saC p0C aaC abC q0C q1C q2C q3C b0C b1C b2C b3C p1C p2C p3C p4C sfC oldC rd tr lf askC shwC an pn gr kdC plC wtC banC bpnC bgrC bkdC bplC bwtC alC woC fiC niC paC a1
  obtain ⟨q1, R2, hR2⟩ := e_back hR a1
  rw [q1] at c
  exact LMi.c17 c rfl ⟨N, Pn, R2, ⟨saC, p0C, aaC, abC, q0C, q1C, q2C, q3C, b0C, b1C, b2C, b3C, p1C, p2C, p3C, p4C, soC, scC, sfC, oldC, askC, shwC, kdC, plC, wtC, banC, bpnC, bgrC, bkdC, bplC, bwtC, alC, woC, fiC, niC, paC, laC, leC, ceC, rfl, hsf, hA, hPp, hR2, hS, hPl⟩⟩
theorem L_left (l : Launch) (D : va_G) (cI cS : ClassId) {h1 : Nat} {Xw : va_W} {lf tr an pn gr rd : Int32} {so sl ces kd pl wt ask shw : Nat → Int32} {N Pn Rn : Nat} (hC : CW cI cS h1 Xw lf tr an pn gr rd so sl ces kd pl wt ask shw N Pn Rn) {wo su xk xp xw : Nat → Int32} {ax ra rp rg : Int32}  : LMi l yX3_left wsX3_left { frames := 4, cells := 0, slots := 0, locals := 88 } D cI cS Xw [.ref h1] (fX4_left an kd pl ask shw N Rn) (fun Xv => ∃ N2 P2 R2, CW cI cS h1 Xv lf tr an pn gr rd so sl ces kd pl wt ask shw N2 P2 R2) := by
  have hC0 := hC
  obtain ⟨saC, p0C, aaC, abC, q0C, q1C, q2C, q3C, b0C, b1C, b2C, b3C, p1C, p2C, p3C, p4C, soC, scC, sfC, oldC, askC, shwC, kdC, plC, wtC, banC, bpnC, bgrC, bkdC, bplC, bwtC, alC, woC, fiC, niC, paC, laC, leC, ceC, hw, hsf, hA, hPp, hR, hS, hPl⟩ := hC
  subst hw
  exact LMi.p17 (c_X3_left l D cI cS h1 saC p0C aaC abC q0C q1C q2C q3C b0C b1C b2C b3C p1C p2C p3C p4C sfC oldC rd tr lf askC shwC an pn gr kdC plC wtC banC bpnC bgrC bkdC bplC bwtC alC woC fiC niC paC N Rn hA.1 hA.2.1 hR.1 hR.2.1) (e_left hA hR) ⟨N, Pn, Rn, hC0⟩
theorem L_kinds (l : Launch) (D : va_G) (cI cS : ClassId) {h1 : Nat} {Xw : va_W} {lf tr an pn gr rd : Int32} {so sl ces kd pl wt ask shw : Nat → Int32} {N Pn Rn : Nat} (hC : CW cI cS h1 Xw lf tr an pn gr rd so sl ces kd pl wt ask shw N Pn Rn) {wo su xk xp xw : Nat → Int32} {ax ra rp rg : Int32} (a1 : Int32) : LMi l yX3_kinds wsX3_kinds { frames := 4, cells := 0, slots := 0, locals := 88 } D cI cS Xw [.ref h1, .int a1] ((fX4_kinds an kd pl ask shw N Rn a1).1) (fun Xv => ∃ N2 P2 R2, CW cI cS h1 Xv lf tr an pn gr rd so sl ces ((fX4_kinds an kd pl ask shw N Rn a1).2) pl wt ask shw N2 P2 R2) := by
  have hC0 := hC
  obtain ⟨saC, p0C, aaC, abC, q0C, q1C, q2C, q3C, b0C, b1C, b2C, b3C, p1C, p2C, p3C, p4C, soC, scC, sfC, oldC, askC, shwC, kdC, plC, wtC, banC, bpnC, bgrC, bkdC, bplC, bwtC, alC, woC, fiC, niC, paC, laC, leC, ceC, hw, hsf, hA, hPp, hR, hS, hPl⟩ := hC
  subst hw
  have c := c_X3_kinds l D cI cS h1 saC p0C aaC abC q0C q1C q2C q3C b0C b1C b2C b3C p1C p2C p3C p4C sfC oldC rd tr lf askC shwC an pn gr kdC plC wtC banC bpnC bgrC bkdC bplC bwtC alC woC fiC niC paC N Rn a1 hA.1 hA.2.1 hR.1 hR.2.1
  obtain ⟨q1, q2, q3⟩ := e_kinds hA hR a1
  rw [q2] at c
  rw [q3]
  exact LMi.c17 c q1 ⟨N, Pn, Rn, ⟨saC, p0C, aaC, abC, q0C, q1C, q2C, q3C, b0C, b1C, b2C, b3C, p1C, p2C, p3C, p4C, soC, scC, sfC, oldC, askC, shwC, kdC, plC, wtC, banC, bpnC, bgrC, bkdC, bplC, bwtC, alC, woC, fiC, niC, paC, laC, leC, ceC, rfl, hsf, hA, hPp, hR, hS, hPl⟩⟩
theorem L_places (l : Launch) (D : va_G) (cI cS : ClassId) {h1 : Nat} {Xw : va_W} {lf tr an pn gr rd : Int32} {so sl ces kd pl wt ask shw : Nat → Int32} {N Pn Rn : Nat} (hC : CW cI cS h1 Xw lf tr an pn gr rd so sl ces kd pl wt ask shw N Pn Rn) {wo su xk xp xw : Nat → Int32} {ax ra rp rg : Int32} (a1 : Int32) : LMi l yX3_places wsX3_places { frames := 4, cells := 0, slots := 0, locals := 88 } D cI cS Xw [.ref h1, .int a1] ((fX4_places an kd pl ask shw N Rn a1).1) (fun Xv => ∃ N2 P2 R2, CW cI cS h1 Xv lf tr an pn gr rd so sl ces kd ((fX4_places an kd pl ask shw N Rn a1).2) wt ask shw N2 P2 R2) := by
  have hC0 := hC
  obtain ⟨saC, p0C, aaC, abC, q0C, q1C, q2C, q3C, b0C, b1C, b2C, b3C, p1C, p2C, p3C, p4C, soC, scC, sfC, oldC, askC, shwC, kdC, plC, wtC, banC, bpnC, bgrC, bkdC, bplC, bwtC, alC, woC, fiC, niC, paC, laC, leC, ceC, hw, hsf, hA, hPp, hR, hS, hPl⟩ := hC
  subst hw
  have c := c_X3_places l D cI cS h1 saC p0C aaC abC q0C q1C q2C q3C b0C b1C b2C b3C p1C p2C p3C p4C sfC oldC rd tr lf askC shwC an pn gr kdC plC wtC banC bpnC bgrC bkdC bplC bwtC alC woC fiC niC paC N Rn a1 hA.1 hA.2.1 hR.1 hR.2.1
  obtain ⟨q1, q2, q3⟩ := e_places hA hR a1
  rw [q2] at c
  rw [q3]
  exact LMi.c17 c q1 ⟨N, Pn, Rn, ⟨saC, p0C, aaC, abC, q0C, q1C, q2C, q3C, b0C, b1C, b2C, b3C, p1C, p2C, p3C, p4C, soC, scC, sfC, oldC, askC, shwC, kdC, plC, wtC, banC, bpnC, bgrC, bkdC, bplC, bwtC, alC, woC, fiC, niC, paC, laC, leC, ceC, rfl, hsf, hA, hPp, hR, hS, hPl⟩⟩
theorem L_odds (l : Launch) (D : va_G) (cI cS : ClassId) {h1 : Nat} {Xw : va_W} {lf tr an pn gr rd : Int32} {so sl ces kd pl wt ask shw : Nat → Int32} {N Pn Rn : Nat} (hC : CW cI cS h1 Xw lf tr an pn gr rd so sl ces kd pl wt ask shw N Pn Rn) {wo su xk xp xw : Nat → Int32} {ax ra rp rg : Int32} (a1 a2 : Int32) : LMl l yX3_odds wsX3_odds { frames := 5, cells := 0, slots := 0, locals := 112 } D cI cS Xw [.ref h1, .int a1, .int a2] ((fX4_odds an kd pl wo su N (2 ^ N - 1) a1 a2).1) (fun Xv => ∃ N2 P2 R2, CW cI cS h1 Xv lf tr an pn gr rd so sl ces kd pl wt ask shw N2 P2 R2) := by
  have hC0 := hC
  obtain ⟨saC, p0C, aaC, abC, q0C, q1C, q2C, q3C, b0C, b1C, b2C, b3C, p1C, p2C, p3C, p4C, soC, scC, sfC, oldC, askC, shwC, kdC, plC, wtC, banC, bpnC, bgrC, bkdC, bplC, bwtC, alC, woC, fiC, niC, paC, laC, leC, ceC, hw, hsf, hA, hPp, hR, hS, hPl⟩ := hC
  subst hw
  have c := c_X3_odds l D cI cS h1 saC p0C aaC abC q0C q1C q2C q3C b0C b1C b2C b3C p1C p2C p3C p4C sfC oldC rd tr lf askC shwC an pn gr kdC plC wtC banC bpnC bgrC bkdC bplC bwtC alC woC fiC niC paC N (2 ^ N - 1) a1 a2 hA.1 hA.2.1 (mAll hA.1 hA.2.1) (odds_M hA.2.1)
  exact LMl.c17 c (e_odds hA hPl a1 a2) ⟨N, Pn, Rn, ⟨saC, p0C, aaC, abC, q0C, q1C, q2C, q3C, b0C, b1C, b2C, b3C, p1C, p2C, p3C, p4C, soC, scC, sfC, _, askC, shwC, kdC, plC, wtC, banC, bpnC, bgrC, bkdC, bplC, bwtC, _, _, _, _, _, laC, leC, ceC, rfl, hsf, hA, hPp, hR, hS, (odds_rel hA hPl a1 a2)⟩⟩
theorem L_sheet (l : Launch) (D : va_G) (cI cS : ClassId) {h1 : Nat} {Xw : va_W} {lf tr an pn gr rd : Int32} {so sl ces kd pl wt ask shw : Nat → Int32} {N Pn Rn : Nat} (hC : CW cI cS h1 Xw lf tr an pn gr rd so sl ces kd pl wt ask shw N Pn Rn) {wo su xk xp xw : Nat → Int32} {ax ra rp rg : Int32} (a1 a2 a3 : Int32) : LMi l yX3_sheet wsX3_sheet { frames := 2, cells := 0, slots := 0, locals := 45 } D cI cS Xw [.ref h1, .int a1, .int a2, .int a3] ((fX4_sheet so sl ces a1 a2 a3).1) (fun Xv => ∃ N2 P2 R2, CW cI cS h1 Xv ((fX4_sheet so sl ces a1 a2 a3).2.1) tr an pn gr rd ((fX4_sheet so sl ces a1 a2 a3).2.2.1) ((fX4_sheet so sl ces a1 a2 a3).2.2.2.1) ((fX4_sheet so sl ces a1 a2 a3).2.2.2.2) kd pl wt ask shw N2 P2 R2) := by
  have hC0 := hC
  obtain ⟨saC, p0C, aaC, abC, q0C, q1C, q2C, q3C, b0C, b1C, b2C, b3C, p1C, p2C, p3C, p4C, soC, scC, sfC, oldC, askC, shwC, kdC, plC, wtC, banC, bpnC, bgrC, bkdC, bplC, bwtC, alC, woC, fiC, niC, paC, laC, leC, ceC, hw, hsf, hA, hPp, hR, hS, hPl⟩ := hC
  subst hw
  rcases shCases a1 with ⟨hsh, hso⟩ | ⟨j, hj, hjj, hsh, hs0, hs1, hcl⟩
  · rw [sheet_n hsh]
    have c := c_X3_sheet_n l D cI cS h1 saC p0C aaC abC q0C q1C q2C q3C b0C b1C b2C b3C p1C p2C p3C p4C sfC oldC rd tr lf askC shwC an pn gr kdC plC wtC banC bpnC bgrC bkdC bplC bwtC alC woC fiC niC paC a1 a2 a3 hso
    exact LMi.c17 c rfl ⟨N, Pn, Rn, ⟨saC, p0C, aaC, abC, q0C, q1C, q2C, q3C, b0C, b1C, b2C, b3C, p1C, p2C, p3C, p4C, soC, scC, sfC, oldC, askC, shwC, kdC, plC, wtC, banC, bpnC, bgrC, bkdC, bplC, bwtC, alC, woC, fiC, niC, paC, laC, leC, ceC, rfl, hsf, hA, hPp, hR, hS, hPl⟩⟩
  · have c := c_X3_sheet_s l D cI cS h1 saC p0C aaC abC q0C q1C q2C q3C b0C b1C b2C b3C p1C p2C p3C p4C (soC j) (scC j) sfC oldC rd tr lf askC shwC an pn gr kdC plC wtC banC bpnC bgrC bkdC bplC bwtC alC woC fiC niC paC (laC j) (leC j) (ceC j) a1 a2 a3 hs0 hs1 (by rw [hcl]; exact hsf j hj)
    subst hjj
    obtain ⟨q1, q2, q3⟩ := e_sheet hS hj a2 a3
    rw [q2] at c
    exact LMi.c19 hj c q1 ⟨N, Pn, Rn, ⟨saC, p0C, aaC, abC, q0C, q1C, q2C, q3C, b0C, b1C, b2C, b3C, p1C, p2C, p3C, p4C, soC, scC, sfC, oldC, askC, shwC, kdC, plC, wtC, banC, bpnC, bgrC, bkdC, bplC, bwtC, alC, woC, fiC, niC, paC, _, _, _, rfl, hsf, hA, hPp, hR, q3, hPl⟩⟩
theorem L_lose (l : Launch) (D : va_G) (cI cS : ClassId) {h1 : Nat} {Xw : va_W} {lf tr an pn gr rd : Int32} {so sl ces kd pl wt ask shw : Nat → Int32} {N Pn Rn : Nat} (hC : CW cI cS h1 Xw lf tr an pn gr rd so sl ces kd pl wt ask shw N Pn Rn) {wo su xk xp xw : Nat → Int32} {ax ra rp rg : Int32} (a1 : Int32) : LMi l yX3_lose wsX3_lose { frames := 1, cells := 0, slots := 0, locals := 21 } D cI cS Xw [.ref h1, .int a1] ((fX4_lose so a1).1) (fun Xv => ∃ N2 P2 R2, CW cI cS h1 Xv lf tr an pn gr rd ((fX4_lose so a1).2) sl ces kd pl wt ask shw N2 P2 R2) := by
  have hC0 := hC
  obtain ⟨saC, p0C, aaC, abC, q0C, q1C, q2C, q3C, b0C, b1C, b2C, b3C, p1C, p2C, p3C, p4C, soC, scC, sfC, oldC, askC, shwC, kdC, plC, wtC, banC, bpnC, bgrC, bkdC, bplC, bwtC, alC, woC, fiC, niC, paC, laC, leC, ceC, hw, hsf, hA, hPp, hR, hS, hPl⟩ := hC
  subst hw
  rcases shCases a1 with ⟨hsh, hso⟩ | ⟨j, hj, hjj, hsh, hs0, hs1, hcl⟩
  · rw [lose_n hsh]
    have c := c_X3_lose_n l D cI cS h1 saC p0C aaC abC q0C q1C q2C q3C b0C b1C b2C b3C p1C p2C p3C p4C sfC oldC rd tr lf askC shwC an pn gr kdC plC wtC banC bpnC bgrC bkdC bplC bwtC alC woC fiC niC paC a1 hso
    exact LMi.c17 c rfl ⟨N, Pn, Rn, ⟨saC, p0C, aaC, abC, q0C, q1C, q2C, q3C, b0C, b1C, b2C, b3C, p1C, p2C, p3C, p4C, soC, scC, sfC, oldC, askC, shwC, kdC, plC, wtC, banC, bpnC, bgrC, bkdC, bplC, bwtC, alC, woC, fiC, niC, paC, laC, leC, ceC, rfl, hsf, hA, hPp, hR, hS, hPl⟩⟩
  · have c := c_X3_lose_s l D cI cS h1 saC p0C aaC abC q0C q1C q2C q3C b0C b1C b2C b3C p1C p2C p3C p4C (soC j) (scC j) sfC oldC rd tr lf askC shwC an pn gr kdC plC wtC banC bpnC bgrC bkdC bplC bwtC alC woC fiC niC paC (laC j) (leC j) (ceC j) a1 hs0 hs1 (by rw [hcl]; exact hsf j hj)
    subst hjj
    obtain ⟨q1, q3⟩ := e_lose hS hj
    refine LMi.c19 hj c q1 ?_
    rw [updG_same]
    exact ⟨N, Pn, Rn, ⟨saC, p0C, aaC, abC, q0C, q1C, q2C, q3C, b0C, b1C, b2C, b3C, p1C, p2C, p3C, p4C, soC, scC, sfC, oldC, askC, shwC, kdC, plC, wtC, banC, bpnC, bgrC, bkdC, bplC, bwtC, alC, woC, fiC, niC, paC, _, _, ceC, rfl, hsf, hA, hPp, hR, q3, hPl⟩⟩
theorem L_put (l : Launch) (D : va_G) (cI cS : ClassId) {h1 : Nat} {Xw : va_W} {lf tr an pn gr rd : Int32} {so sl ces kd pl wt ask shw : Nat → Int32} {N Pn Rn : Nat} (hC : CW cI cS h1 Xw lf tr an pn gr rd so sl ces kd pl wt ask shw N Pn Rn) {wo su xk xp xw : Nat → Int32} {ax ra rp rg : Int32} (a1 a2 a3 : Int32) : LMi l yX3_put wsX3_put { frames := 2, cells := 0, slots := 0, locals := 44 } D cI cS Xw [.ref h1, .int a1, .int a2, .int a3] ((fX4_put so sl ces a1 a2 a3).1) (fun Xv => ∃ N2 P2 R2, CW cI cS h1 Xv ((fX4_put so sl ces a1 a2 a3).2.1) tr an pn gr rd so sl ((fX4_put so sl ces a1 a2 a3).2.2) kd pl wt ask shw N2 P2 R2) := by
  have hC0 := hC
  obtain ⟨saC, p0C, aaC, abC, q0C, q1C, q2C, q3C, b0C, b1C, b2C, b3C, p1C, p2C, p3C, p4C, soC, scC, sfC, oldC, askC, shwC, kdC, plC, wtC, banC, bpnC, bgrC, bkdC, bplC, bwtC, alC, woC, fiC, niC, paC, laC, leC, ceC, hw, hsf, hA, hPp, hR, hS, hPl⟩ := hC
  subst hw
  rcases shCases a1 with ⟨hsh, hso⟩ | ⟨j, hj, hjj, hsh, hs0, hs1, hcl⟩
  · rw [put_n hsh]
    have c := c_X3_put_n l D cI cS h1 saC p0C aaC abC q0C q1C q2C q3C b0C b1C b2C b3C p1C p2C p3C p4C sfC oldC rd tr lf askC shwC an pn gr kdC plC wtC banC bpnC bgrC bkdC bplC bwtC alC woC fiC niC paC a1 a2 a3 hso
    exact LMi.c17 c rfl ⟨N, Pn, Rn, ⟨saC, p0C, aaC, abC, q0C, q1C, q2C, q3C, b0C, b1C, b2C, b3C, p1C, p2C, p3C, p4C, soC, scC, sfC, oldC, askC, shwC, kdC, plC, wtC, banC, bpnC, bgrC, bkdC, bplC, bwtC, alC, woC, fiC, niC, paC, laC, leC, ceC, rfl, hsf, hA, hPp, hR, hS, hPl⟩⟩
  · have c := c_X3_put_s l D cI cS h1 saC p0C aaC abC q0C q1C q2C q3C b0C b1C b2C b3C p1C p2C p3C p4C (soC j) (scC j) sfC oldC rd tr lf askC shwC an pn gr kdC plC wtC banC bpnC bgrC bkdC bplC bwtC alC woC fiC niC paC (laC j) (leC j) (ceC j) a1 a2 a3 hs0 hs1 (by rw [hcl]; exact hsf j hj)
    subst hjj
    obtain ⟨q1, q2, q3⟩ := e_put hS hj a2 a3
    rw [q2] at c
    refine LMi.c19 hj c q1 ?_
    rw [updG_same, updG_same]
    exact ⟨N, Pn, Rn, ⟨saC, p0C, aaC, abC, q0C, q1C, q2C, q3C, b0C, b1C, b2C, b3C, p1C, p2C, p3C, p4C, soC, scC, sfC, oldC, askC, shwC, kdC, plC, wtC, banC, bpnC, bgrC, bkdC, bplC, bwtC, alC, woC, fiC, niC, paC, laC, leC, _, rfl, hsf, hA, hPp, hR, q3, hPl⟩⟩
theorem L_cell (l : Launch) (D : va_G) (cI cS : ClassId) {h1 : Nat} {Xw : va_W} {lf tr an pn gr rd : Int32} {so sl ces kd pl wt ask shw : Nat → Int32} {N Pn Rn : Nat} (hC : CW cI cS h1 Xw lf tr an pn gr rd so sl ces kd pl wt ask shw N Pn Rn) {wo su xk xp xw : Nat → Int32} {ax ra rp rg : Int32} (a1 a2 a3 : Int32) : LMl l yX3_cell wsX3_cell { frames := 2, cells := 0, slots := 0, locals := 43 } D cI cS Xw [.ref h1, .int a1, .int a2, .int a3] ((fX4_cell so sl ces a1 a2 a3).1) (fun Xv => ∃ N2 P2 R2, CW cI cS h1 Xv ((fX4_cell so sl ces a1 a2 a3).2) tr an pn gr rd so sl ces kd pl wt ask shw N2 P2 R2) := by
  have hC0 := hC
  obtain ⟨saC, p0C, aaC, abC, q0C, q1C, q2C, q3C, b0C, b1C, b2C, b3C, p1C, p2C, p3C, p4C, soC, scC, sfC, oldC, askC, shwC, kdC, plC, wtC, banC, bpnC, bgrC, bkdC, bplC, bwtC, alC, woC, fiC, niC, paC, laC, leC, ceC, hw, hsf, hA, hPp, hR, hS, hPl⟩ := hC
  subst hw
  rcases shCases a1 with ⟨hsh, hso⟩ | ⟨j, hj, hjj, hsh, hs0, hs1, hcl⟩
  · rw [cell_n hsh]
    have c := c_X3_cell_n l D cI cS h1 saC p0C aaC abC q0C q1C q2C q3C b0C b1C b2C b3C p1C p2C p3C p4C sfC oldC rd tr lf askC shwC an pn gr kdC plC wtC banC bpnC bgrC bkdC bplC bwtC alC woC fiC niC paC a1 a2 a3 hso
    exact LMl.c17 c rfl ⟨N, Pn, Rn, ⟨saC, p0C, aaC, abC, q0C, q1C, q2C, q3C, b0C, b1C, b2C, b3C, p1C, p2C, p3C, p4C, soC, scC, sfC, oldC, askC, shwC, kdC, plC, wtC, banC, bpnC, bgrC, bkdC, bplC, bwtC, alC, woC, fiC, niC, paC, laC, leC, ceC, rfl, hsf, hA, hPp, hR, hS, hPl⟩⟩
  · have c := (rS_le hS hj)
    obtain ⟨Le, hLe, hle⟩ := c
    have c := c_X3_cell_s l D cI cS h1 saC p0C aaC abC q0C q1C q2C q3C b0C b1C b2C b3C p1C p2C p3C p4C (soC j) (scC j) sfC oldC rd tr lf askC shwC an pn gr kdC plC wtC banC bpnC bgrC bkdC bplC bwtC alC woC fiC niC paC (laC j) (leC j) (ceC j) a1 a2 a3 hs0 hs1 (by rw [hcl]; exact hsf j hj)
    subst hjj
    rw [e_cell hS hj a2 a3] at c
    refine LMl.c19 hj c rfl ?_
    rw [updG_same, updG_same, updG_same]
    exact ⟨N, Pn, Rn, ⟨saC, p0C, aaC, abC, q0C, q1C, q2C, q3C, b0C, b1C, b2C, b3C, p1C, p2C, p3C, p4C, soC, scC, sfC, oldC, askC, shwC, kdC, plC, wtC, banC, bpnC, bgrC, bkdC, bplC, bwtC, alC, woC, fiC, niC, paC, laC, leC, ceC, rfl, hsf, hA, hPp, hR, hS, hPl⟩⟩
theorem L_copy (l : Launch) (D : va_G) (cI cS : ClassId) {h1 : Nat} {Xw : va_W} {lf tr an pn gr rd : Int32} {so sl ces kd pl wt ask shw : Nat → Int32} {N Pn Rn : Nat} (hC : CW cI cS h1 Xw lf tr an pn gr rd so sl ces kd pl wt ask shw N Pn Rn) {wo su xk xp xw : Nat → Int32} {ax ra rp rg : Int32} (a1 a2 a3 a4 a5 : Int32) : LMi l yX3_copy wsX3_copy { frames := 3, cells := 0, slots := 0, locals := 67 } D cI cS Xw [.ref h1, .int a1, .int a2, .int a3, .int a4, .int a5] ((fX4_copy so sl ces a1 a2 a3 a4 a5).1) (fun Xv => ∃ N2 P2 R2, CW cI cS h1 Xv ((fX4_copy so sl ces a1 a2 a3 a4 a5).2.1) tr an pn gr rd so sl ((fX4_copy so sl ces a1 a2 a3 a4 a5).2.2) kd pl wt ask shw N2 P2 R2) := by
  have hC0 := hC
  obtain ⟨saC, p0C, aaC, abC, q0C, q1C, q2C, q3C, b0C, b1C, b2C, b3C, p1C, p2C, p3C, p4C, soC, scC, sfC, oldC, askC, shwC, kdC, plC, wtC, banC, bpnC, bgrC, bkdC, bplC, bwtC, alC, woC, fiC, niC, paC, laC, leC, ceC, hw, hsf, hA, hPp, hR, hS, hPl⟩ := hC
  subst hw
  rcases shCases a1 with ⟨hsh, hso⟩ | ⟨j, hj, hjj, hsh, hs0, hs1, hcl⟩
  · rw [copy_n1 hsh]
    rcases shCases a3 with ⟨hsh2, hoo⟩ | ⟨o, ho, hoeq, hsh2, ho0, ho1, hcl2⟩
    · exact LMi.c17 (c_X3_copy_n1 l D cI cS h1 saC p0C aaC abC q0C q1C q2C q3C b0C b1C b2C b3C p1C p2C p3C p4C sfC oldC rd tr lf askC shwC an pn gr kdC plC wtC banC bpnC bgrC bkdC bplC bwtC alC woC fiC niC paC a1 a2 a3 a4 a5 hso hoo) rfl ⟨N, Pn, Rn, ⟨saC, p0C, aaC, abC, q0C, q1C, q2C, q3C, b0C, b1C, b2C, b3C, p1C, p2C, p3C, p4C, soC, scC, sfC, oldC, askC, shwC, kdC, plC, wtC, banC, bpnC, bgrC, bkdC, bplC, bwtC, alC, woC, fiC, niC, paC, laC, leC, ceC, rfl, hsf, hA, hPp, hR, hS, hPl⟩⟩
    · exact LMi.c17 (c_X3_copy_n2 l D cI cS h1 saC p0C aaC abC q0C q1C q2C q3C b0C b1C b2C b3C p1C p2C p3C p4C sfC oldC rd tr lf askC shwC an pn gr kdC plC wtC banC bpnC bgrC bkdC bplC bwtC alC woC fiC niC paC (soC o) a1 a2 a3 a4 a5 hso ho0 ho1 (by rw [hcl2]; exact hsf o ho)) rfl ⟨N, Pn, Rn, ⟨saC, p0C, aaC, abC, q0C, q1C, q2C, q3C, b0C, b1C, b2C, b3C, p1C, p2C, p3C, p4C, soC, scC, sfC, oldC, askC, shwC, kdC, plC, wtC, banC, bpnC, bgrC, bkdC, bplC, bwtC, alC, woC, fiC, niC, paC, laC, leC, ceC, rfl, hsf, hA, hPp, hR, hS, hPl⟩⟩
  · rcases shCases a3 with ⟨hsh2, hoo⟩ | ⟨o, ho, hoeq, hsh2, ho0, ho1, hcl2⟩
    · rw [copy_n3 hsh hsh2]
      exact LMi.c17 (c_X3_copy_n3 l D cI cS h1 saC p0C aaC abC q0C q1C q2C q3C b0C b1C b2C b3C p1C p2C p3C p4C sfC oldC rd tr lf askC shwC an pn gr kdC plC wtC banC bpnC bgrC bkdC bplC bwtC alC woC fiC niC paC (soC j) a1 a2 a3 a4 a5 hs0 hs1 (by rw [hcl]; exact hsf j hj) hoo) rfl ⟨N, Pn, Rn, ⟨saC, p0C, aaC, abC, q0C, q1C, q2C, q3C, b0C, b1C, b2C, b3C, p1C, p2C, p3C, p4C, soC, scC, sfC, oldC, askC, shwC, kdC, plC, wtC, banC, bpnC, bgrC, bkdC, bplC, bwtC, alC, woC, fiC, niC, paC, laC, leC, ceC, rfl, hsf, hA, hPp, hR, hS, hPl⟩⟩
    · obtain ⟨Le, hLe, hle⟩ := rS_le hS hj
      by_cases hjo : o = j
      · subst hjo
        have c := c_X3_copy_a l D cI cS h1 saC p0C aaC abC q0C q1C q2C q3C b0C b1C b2C b3C p1C p2C p3C p4C (soC o) (scC o) sfC oldC rd tr lf askC shwC an pn gr kdC plC wtC banC bpnC bgrC bkdC bplC bwtC alC woC fiC niC paC (laC o) (leC o) (ceC o) Le a1 a2 a3 a4 a5 hs0 hs1 (by rw [hcl]; exact hsf o hj) ho0 ho1 (by rw [hcl2]; exact hsf o hj) hle hLe
        subst hjj
        subst hoeq
        obtain ⟨q1, q2, q3⟩ := e_copy_a hS hj a2 a4 a5
        rw [q2] at c
        refine LMi.c19 hj c q1 ?_
        rw [updG_same, updG_same]
        exact ⟨N, Pn, Rn, ⟨saC, p0C, aaC, abC, q0C, q1C, q2C, q3C, b0C, b1C, b2C, b3C, p1C, p2C, p3C, p4C, soC, scC, sfC, oldC, askC, shwC, kdC, plC, wtC, banC, bpnC, bgrC, bkdC, bplC, bwtC, alC, woC, fiC, niC, paC, laC, leC, _, rfl, hsf, hA, hPp, hR, q3, hPl⟩⟩
      · have c := c_X3_copy_s l D cI cS h1 saC p0C aaC abC q0C q1C q2C q3C b0C b1C b2C b3C p1C p2C p3C p4C (soC j) (scC j) (soC o) (scC o) sfC oldC rd tr lf askC shwC an pn gr kdC plC wtC banC bpnC bgrC bkdC bplC bwtC alC woC fiC niC paC (laC j) (leC j) (ceC j) (laC o) (leC o) (ceC o) Le a1 a2 a3 a4 a5 hs0 hs1 (by rw [hcl]; exact hsf j hj) ho0 ho1 (by rw [hcl2]; exact hsf o ho) hle hLe
        subst hjj
        subst hoeq
        obtain ⟨q1, q2, q3⟩ := e_copy hS hj ho hjo a2 a4 a5
        rw [q2] at c
        exact LMi.c21 hj ho hjo c q1 ⟨N, Pn, Rn, ⟨saC, p0C, aaC, abC, q0C, q1C, q2C, q3C, b0C, b1C, b2C, b3C, p1C, p2C, p3C, p4C, soC, scC, sfC, oldC, askC, shwC, kdC, plC, wtC, banC, bpnC, bgrC, bkdC, bplC, bwtC, alC, woC, fiC, niC, paC, laC, leC, _, rfl, hsf, hA, hPp, hR, q3, hPl⟩⟩
theorem L_tell (l : Launch) (D : va_G) (cI cS : ClassId) {h1 : Nat} {Xw : va_W} {lf tr an pn gr rd : Int32} {so sl ces kd pl wt ask shw : Nat → Int32} {N Pn Rn : Nat} (hC : CW cI cS h1 Xw lf tr an pn gr rd so sl ces kd pl wt ask shw N Pn Rn) {wo su xk xp xw : Nat → Int32} {ax ra rp rg : Int32} (a1 : Int32) : LMi l yX3_tell wsX3_tell { frames := 5, cells := 0, slots := 0, locals := 106 } D cI cS Xw [.ref h1, .int a1] ((fX4_tell tr an kd pl a1).1) (fun Xv => ∃ N2 P2 R2, CW cI cS h1 Xv lf ((fX4_tell tr an kd pl a1).2) an pn gr rd so sl ces kd pl wt ask shw N2 P2 R2) := by
  have hC0 := hC
  obtain ⟨saC, p0C, aaC, abC, q0C, q1C, q2C, q3C, b0C, b1C, b2C, b3C, p1C, p2C, p3C, p4C, soC, scC, sfC, oldC, askC, shwC, kdC, plC, wtC, banC, bpnC, bgrC, bkdC, bplC, bwtC, alC, woC, fiC, niC, paC, laC, leC, ceC, hw, hsf, hA, hPp, hR, hS, hPl⟩ := hC
  subst hw
  have c := c_X3_tell l D cI cS h1 saC p0C aaC abC q0C q1C q2C q3C b0C b1C b2C b3C p1C p2C p3C p4C sfC oldC rd tr lf askC shwC an pn gr kdC plC wtC banC bpnC bgrC bkdC bplC bwtC alC woC fiC niC paC a1
  rw [e_tell hA tr a1] at c
  exact LMi.c17 c rfl ⟨N, Pn, Rn, ⟨saC, p0C, aaC, abC, q0C, q1C, q2C, q3C, b0C, b1C, b2C, b3C, p1C, p2C, p3C, p4C, soC, scC, sfC, oldC, askC, shwC, kdC, plC, wtC, banC, bpnC, bgrC, bkdC, bplC, bwtC, alC, woC, fiC, niC, paC, laC, leC, ceC, rfl, hsf, hA, hPp, hR, hS, hPl⟩⟩
theorem L_whisper (l : Launch) (D : va_G) (cI cS : ClassId) {h1 : Nat} {Xw : va_W} {lf tr an pn gr rd : Int32} {so sl ces kd pl wt ask shw : Nat → Int32} {N Pn Rn : Nat} (hC : CW cI cS h1 Xw lf tr an pn gr rd so sl ces kd pl wt ask shw N Pn Rn) {wo su xk xp xw : Nat → Int32} {ax ra rp rg : Int32} (a1 : Int32) : LMi l yX3_whisper wsX3_whisper { frames := 2, cells := 0, slots := 0, locals := 42 } D cI cS Xw [.ref h1, .int a1] ((fX4_whisper tr an kd a1).1) (fun Xv => ∃ N2 P2 R2, CW cI cS h1 Xv lf ((fX4_whisper tr an kd a1).2) an pn gr rd so sl ces kd pl wt ask shw N2 P2 R2) := by
  have hC0 := hC
  obtain ⟨saC, p0C, aaC, abC, q0C, q1C, q2C, q3C, b0C, b1C, b2C, b3C, p1C, p2C, p3C, p4C, soC, scC, sfC, oldC, askC, shwC, kdC, plC, wtC, banC, bpnC, bgrC, bkdC, bplC, bwtC, alC, woC, fiC, niC, paC, laC, leC, ceC, hw, hsf, hA, hPp, hR, hS, hPl⟩ := hC
  subst hw
  have c := c_X3_whisper l D cI cS h1 saC p0C aaC abC q0C q1C q2C q3C b0C b1C b2C b3C p1C p2C p3C p4C sfC oldC rd tr lf askC shwC an pn gr kdC plC wtC banC bpnC bgrC bkdC bplC bwtC alC woC fiC niC paC a1
  rw [e_whisper hA tr a1] at c
  exact LMi.c17 c rfl ⟨N, Pn, Rn, ⟨saC, p0C, aaC, abC, q0C, q1C, q2C, q3C, b0C, b1C, b2C, b3C, p1C, p2C, p3C, p4C, soC, scC, sfC, oldC, askC, shwC, kdC, plC, wtC, banC, bpnC, bgrC, bkdC, bplC, bwtC, alC, woC, fiC, niC, paC, laC, leC, ceC, rfl, hsf, hA, hPp, hR, hS, hPl⟩⟩
theorem L_as (l : Launch) (D : va_G) (cI cS : ClassId) {h1 : Nat} {Xw : va_W} {lf tr an pn gr rd : Int32} {so sl ces kd pl wt ask shw : Nat → Int32} {N Pn Rn : Nat} (hC : CW cI cS h1 Xw lf tr an pn gr rd so sl ces kd pl wt ask shw N Pn Rn) {wo su xk xp xw : Nat → Int32} {ax ra rp rg : Int32} (a1 a2 : Int32) : LMi l yX3_as wsX3_as { frames := 2, cells := 0, slots := 0, locals := 42 } D cI cS Xw [.ref h1, .int a1, .int a2] ((fX4_as an kd a1 a2).1) (fun Xv => ∃ N2 P2 R2, CW cI cS h1 Xv ((fX4_as an kd a1 a2).2) tr an pn gr rd so sl ces kd pl wt ask shw N2 P2 R2) := by
  have hC0 := hC
  obtain ⟨saC, p0C, aaC, abC, q0C, q1C, q2C, q3C, b0C, b1C, b2C, b3C, p1C, p2C, p3C, p4C, soC, scC, sfC, oldC, askC, shwC, kdC, plC, wtC, banC, bpnC, bgrC, bkdC, bplC, bwtC, alC, woC, fiC, niC, paC, laC, leC, ceC, hw, hsf, hA, hPp, hR, hS, hPl⟩ := hC
  subst hw
  have c := c_X3_as l D cI cS h1 saC p0C aaC abC q0C q1C q2C q3C b0C b1C b2C b3C p1C p2C p3C p4C sfC oldC rd tr lf askC shwC an pn gr kdC plC wtC banC bpnC bgrC bkdC bplC bwtC alC woC fiC niC paC a1 a2
  rw [e_as hA a1 a2] at c
  exact LMi.c17 c rfl ⟨N, Pn, Rn, ⟨saC, p0C, aaC, abC, q0C, q1C, q2C, q3C, b0C, b1C, b2C, b3C, p1C, p2C, p3C, p4C, soC, scC, sfC, oldC, askC, shwC, kdC, plC, wtC, banC, bpnC, bgrC, bkdC, bplC, bwtC, alC, woC, fiC, niC, paC, laC, leC, ceC, rfl, hsf, hA, hPp, hR, hS, hPl⟩⟩
theorem L_trace (l : Launch) (D : va_G) (cI cS : ClassId) {h1 : Nat} {Xw : va_W} {lf tr an pn gr rd : Int32} {so sl ces kd pl wt ask shw : Nat → Int32} {N Pn Rn : Nat} (hC : CW cI cS h1 Xw lf tr an pn gr rd so sl ces kd pl wt ask shw N Pn Rn) {wo su xk xp xw : Nat → Int32} {ax ra rp rg : Int32}  : LMi l yX3_trace wsX3_trace { frames := 0, cells := 0, slots := 0, locals := 0 } D cI cS Xw [.ref h1] (fX4_trace tr) (fun Xv => ∃ N2 P2 R2, CW cI cS h1 Xv lf tr an pn gr rd so sl ces kd pl wt ask shw N2 P2 R2) := by
  have hC0 := hC
  obtain ⟨saC, p0C, aaC, abC, q0C, q1C, q2C, q3C, b0C, b1C, b2C, b3C, p1C, p2C, p3C, p4C, soC, scC, sfC, oldC, askC, shwC, kdC, plC, wtC, banC, bpnC, bgrC, bkdC, bplC, bwtC, alC, woC, fiC, niC, paC, laC, leC, ceC, hw, hsf, hA, hPp, hR, hS, hPl⟩ := hC
  subst hw
  exact LMi.p17 (c_X3_trace l D cI cS h1 saC p0C aaC abC q0C q1C q2C q3C b0C b1C b2C b3C p1C p2C p3C p4C sfC oldC rd tr lf askC shwC an pn gr kdC plC wtC banC bpnC bgrC bkdC bplC bwtC alC woC fiC niC paC) rfl ⟨N, Pn, Rn, hC0⟩
theorem L_fault (l : Launch) (D : va_G) (cI cS : ClassId) {h1 : Nat} {Xw : va_W} {lf tr an pn gr rd : Int32} {so sl ces kd pl wt ask shw : Nat → Int32} {N Pn Rn : Nat} (hC : CW cI cS h1 Xw lf tr an pn gr rd so sl ces kd pl wt ask shw N Pn Rn) {wo su xk xp xw : Nat → Int32} {ax ra rp rg : Int32}  : LMi l yX3_fault wsX3_fault { frames := 0, cells := 0, slots := 0, locals := 0 } D cI cS Xw [.ref h1] (fX4_fault lf) (fun Xv => ∃ N2 P2 R2, CW cI cS h1 Xv lf tr an pn gr rd so sl ces kd pl wt ask shw N2 P2 R2) := by
  have hC0 := hC
  obtain ⟨saC, p0C, aaC, abC, q0C, q1C, q2C, q3C, b0C, b1C, b2C, b3C, p1C, p2C, p3C, p4C, soC, scC, sfC, oldC, askC, shwC, kdC, plC, wtC, banC, bpnC, bgrC, bkdC, bplC, bwtC, alC, woC, fiC, niC, paC, laC, leC, ceC, hw, hsf, hA, hPp, hR, hS, hPl⟩ := hC
  subst hw
  exact LMi.p17 (c_X3_fault l D cI cS h1 saC p0C aaC abC q0C q1C q2C q3C b0C b1C b2C b3C p1C p2C p3C p4C sfC oldC rd tr lf askC shwC an pn gr kdC plC wtC banC bpnC bgrC bkdC bplC bwtC alC woC fiC niC paC) rfl ⟨N, Pn, Rn, hC0⟩
theorem L_many (l : Launch) (D : va_G) (cI cS : ClassId) {h1 : Nat} {Xw : va_W} {lf tr an pn gr rd : Int32} {so sl ces kd pl wt ask shw : Nat → Int32} {N Pn Rn : Nat} (hC : CW cI cS h1 Xw lf tr an pn gr rd so sl ces kd pl wt ask shw N Pn Rn) {wo su xk xp xw : Nat → Int32} {ax ra rp rg : Int32} (a1 : Int32) : LMi l yX3_many wsX3_many { frames := 1, cells := 0, slots := 0, locals := 20 } D cI cS Xw [.ref h1, .int a1] (fX4_many an pn gr rd a1) (fun Xv => ∃ N2 P2 R2, CW cI cS h1 Xv lf tr an pn gr rd so sl ces kd pl wt ask shw N2 P2 R2) := by
  have hC0 := hC
  obtain ⟨saC, p0C, aaC, abC, q0C, q1C, q2C, q3C, b0C, b1C, b2C, b3C, p1C, p2C, p3C, p4C, soC, scC, sfC, oldC, askC, shwC, kdC, plC, wtC, banC, bpnC, bgrC, bkdC, bplC, bwtC, alC, woC, fiC, niC, paC, laC, leC, ceC, hw, hsf, hA, hPp, hR, hS, hPl⟩ := hC
  subst hw
  exact LMi.p17 (c_X3_many l D cI cS h1 saC p0C aaC abC q0C q1C q2C q3C b0C b1C b2C b3C p1C p2C p3C p4C sfC oldC rd tr lf askC shwC an pn gr kdC plC wtC banC bpnC bgrC bkdC bplC bwtC alC woC fiC niC paC a1) rfl ⟨N, Pn, Rn, hC0⟩
