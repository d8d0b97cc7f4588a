def fX4_mean (an : Int32) (kd pl wo su : Nat → Int32) (N Q Z : Nat) (se wh : Int32) : Int64 × (Nat → Int32) × (Nat → Int32) := (if an = 0 then ((-9223372036854775808), wo, su) else (if se = 0 then ((-9223372036854775808), wo, su) else (if (fX4_isSet an se) = 0 then ((-9223372036854775808), wo, su) else (if (fX4_within wh 0 1) = 0 then ((-9223372036854775808), wo, su) else ((fX4_inLeastTerms Q Z wh), (fX4_findWorst kd pl wo su N se.toNatClampNeg).1, (fX4_findWorst kd pl wo su N se.toNatClampNeg).2)))))
theorem q_X4_mean : yX4_mean.cls = RX4 ∧ yX4_mean.cls ≠ "java/lang/invoke/MethodHandle" ∧ yX4_mean.cls ≠ "java/lang/invoke/VarHandle" ∧ (parseMethodDescriptor yX4_mean.desc).map (fun d => d.parameters.length) = some 2 := by decide +kernel
set_option maxHeartbeats 4000000 in
set_option maxRecDepth 100000 in
theorem c_X4_mean (l : Launch) (D : va_G) (cI cS : ClassId) (h m1 m2 m3 m4 m5 m6 m7 m8 m9 m10 m11 m12 m13 : Nat) (lf tr an pn gr ax ra rp rg rd : Int32) (so sl ces kd pl wt xk xp xw wo su ask shw : Nat → Int32) (N Q Z : Nat) (se wh : Int32) (ha : an = nI N) (hN : N ≤ 6) (hqv : ¬ (fX4_isSet an se) = 0 → (fX4_findWorst kd pl wo su N se.toNatClampNeg).2 se.toNatClampNeg = nI Q) (hQb : Q < 2 ^ 31) (hZ : ¬ (fX4_isSet an se) = 0 → ¬ se = 0 → fX4_size se.toNatClampNeg = nI Z ∧ 0 < Z) (hZb : Z < 2 ^ 31) : MMl l yX4_mean wsX4_mean { frames := 4, cells := 0, slots := 0, locals := 98 } D cI cS (wMo cI h m1 m2 m3 m4 m5 m6 m7 m8 m9 m10 m11 m12 m13 lf tr an pn gr ax ra rp rg rd so sl ces kd pl wt xk xp xw wo su ask shw) [.ref h, .int se, .int wh] ((fX4_mean an kd pl wo su N Q Z se wh).1) (wMo cI h m1 m2 m3 m4 m5 m6 m7 m8 m9 m10 m11 m12 m13 lf tr an pn gr ax ra rp rg rd so sl ces kd pl wt xk xp xw ((fX4_mean an kd pl wo su N Q Z se wh).2.1) ((fX4_mean an kd pl wo su N Q Z se wh).2.2) ask shw) := by
  refine kEnterM (cc := cX4_mean) (maxL := 3) (ret := (some .long)) (by decide) rfl (Nat.le_of_ble_eq_true rfl) ?_
  intro p e s m below meth c ls Qf hQ hx hb hml hr hlocks hown hts hK hP hD hS hl
  have hown : s.vm.findClass RX4 = some m.cls := hown
  have hl : lv_has ls 3 [(0, .ref h), (1, .int se), (2, .int wh)] := hl
  generalize kA (wMo cI h m1 m2 m3 m4 m5 m6 m7 m8 m9 m10 m11 m12 m13 lf tr an pn gr ax ra rp rg rd so sl ces kd pl wt xk xp xw wo su ask shw) = A at hQ hD hS
  refine lv_aload_n hx hb dX4_mean_0 rfl (lv_at hl 0 rfl) ?_
  refine va_get (D := D) (ci := 4) (v := .int an) (C := RX4) (T := TX4) (N := 23) hx hb hts (fun _ h => List.mem_cons_of_mem _ (List.mem_append_right _ h)) hown hK.1 hP 0 rfl rfl 5 (by decide) (hts (.fieldLink RX4 59 "LieNightsModel" "answers" "I") (List.mem_of_getElem? (i := 1) rfl)) (fun _ h9 => h9) rfl dX4_mean_1 ?_
  refine lv_if_eq (tgt := 28) hx hb dX4_mean_4 (by decide) (fun c4 => ?_) (fun c4 => ?_)
  · skip
    refine lv_ldc2 hx hb hown (hts (.constantLong RX4 53 (-9223372036854775808)) (List.mem_of_getElem? (i := 2) rfl)) dX4_mean_28 ?_
    have hR1 : (fX4_mean an kd pl wo su N Q Z se wh) = ((-9223372036854775808), wo, su) := (by unfold fX4_mean; rw [if_pos c4])
    rw [hQ]
    exact W.lret (v := (-9223372036854775808)) hx hb hr (fun t ht hW => ⟨⟨_, (), rfl, (by show _ = _; rw [hR1]), (by show va_P D vwCl _ t.heap; rw [hR1, ht]; exact hP)⟩, hS.F ht⟩) hS.2.2 dX4_mean_31
  refine lv_iload_n hx hb dX4_mean_7 rfl (lv_at hl 1 rfl) ?_
  refine lv_if_eq (tgt := 28) hx hb dX4_mean_8 (by decide) (fun c8 => ?_) (fun c8 => ?_)
  · skip
    refine lv_ldc2 hx hb hown (hts (.constantLong RX4 53 (-9223372036854775808)) (List.mem_of_getElem? (i := 2) rfl)) dX4_mean_28 ?_
    have hR2 : (fX4_mean an kd pl wo su N Q Z se wh) = ((-9223372036854775808), wo, su) := (by unfold fX4_mean; rw [if_neg c4, if_pos c8])
    rw [hQ]
    exact W.lret (v := (-9223372036854775808)) hx hb hr (fun t ht hW => ⟨⟨_, (), rfl, (by show _ = _; rw [hR2]), (by show va_P D vwCl _ t.heap; rw [hR2, ht]; exact hP)⟩, hS.F ht⟩) hS.2.2 dX4_mean_31
  refine lv_aload_n hx hb dX4_mean_11 rfl (lv_at hl 0 rfl) ?_
  refine lv_iload_n hx hb dX4_mean_12 rfl (lv_at hl 1 rfl) ?_
  refine kPi (va_runV (As := [.int se]) (rest := []) ⟨hx, hb, hml, hown, hts⟩ (c_X4_isSet l D cI cS h m1 m2 m3 m4 m5 m6 m7 m8 m9 m10 m11 m12 m13 lf tr an pn gr ax ra rp rg rd so sl ces kd pl wt xk xp xw wo su ask shw se) (cwV 1 hts gX4_mean_X4_isSet rfl rfl rfl q_X4_isSet ⟨Nat.le_of_ble_eq_true rfl, Nat.le_of_ble_eq_true rfl⟩) (kPV hK hP [0, 1, 2, 3, 4, 5, 6, 7, 8, 9, 10, 11, 12, 13] rfl (va_recv hK.1 hP (ci := 4) (q0 := 0) rfl rfl) [.int se]) rfl rfl hl.1 rfl (lv_room (Nat.le_of_ble_eq_true rfl)) dX4_mean_13 ⟨Nat.zero_le _, Nat.zero_le _⟩) ?_
  refine lv_if_eq (tgt := 28) hx hb dX4_mean_16 (by decide) (fun c16 => ?_) (fun c16 => ?_)
  · skip
    refine lv_ldc2 hx hb hown (hts (.constantLong RX4 53 (-9223372036854775808)) (List.mem_of_getElem? (i := 2) rfl)) dX4_mean_28 ?_
    have hR3 : (fX4_mean an kd pl wo su N Q Z se wh) = ((-9223372036854775808), wo, su) := (by unfold fX4_mean; rw [if_neg c4, if_neg c8, if_pos c16])
    rw [hQ]
    exact W.lret (v := (-9223372036854775808)) hx hb hr (fun t ht hW => ⟨⟨_, (), rfl, (by show _ = _; rw [hR3]), (by show va_P D vwCl _ t.heap; rw [hR3, ht]; exact hP)⟩, hS.F ht⟩) hS.2.2 dX4_mean_31
  refine lv_iload_n hx hb dX4_mean_19 rfl (lv_at hl 2 rfl) ?_
  refine lv_iconst (v := 0) hx hb dX4_mean_20 (by decide) ?_
  refine lv_iconst (v := 1) hx hb dX4_mean_21 (by decide) ?_
  refine kPi (va_runS (As := [.int wh, .int 0, .int 1]) (rest := []) ⟨hx, hb, hml, hown, hts⟩ (c_X4_within l D cI cS wh 0 1) (va_cwS 3 hts gX4_mean_X4_within rfl rfl rfl q_X4_within.2 ⟨Nat.le_of_ble_eq_true rfl, Nat.le_of_ble_eq_true rfl⟩) (kPS hK hP [] rfl [.int wh, .int 0, .int 1]) rfl rfl hl.1 rfl (lv_room (Nat.le_of_ble_eq_true rfl)) dX4_mean_22 ⟨Nat.zero_le _, Nat.zero_le _⟩) ?_
  refine lv_if_ne (tgt := 32) hx hb dX4_mean_25 (by decide) (fun c25 => ?_) (fun c25 => ?_)
  · skip
    have hq := mSetC ha hN c16
    refine lv_aload_n hx hb dX4_mean_32 rfl (lv_at hl 0 rfl) ?_
    refine lv_iload_n hx hb dX4_mean_33 rfl (lv_at hl 1 rfl) ?_
    refine kMv (wl' := (wMo cI h m1 m2 m3 m4 m5 m6 m7 m8 m9 m10 m11 m12 m13 lf tr an pn gr ax ra rp rg rd so sl ces kd pl wt xk xp xw ((fX4_findWorst kd pl wo su N se.toNatClampNeg).1) ((fX4_findWorst kd pl wo su N se.toNatClampNeg).2) ask shw)) (wc := (wMo cI h m1 m2 m3 m4 m5 m6 m7 m8 m9 m10 m11 m12 m13 lf tr an pn gr ax ra rp rg rd so sl ces kd pl wt xk xp xw wo su ask shw)) (w1 := (wMo cI h m1 m2 m3 m4 m5 m6 m7 m8 m9 m10 m11 m12 m13 lf tr an pn gr ax ra rp rg rd so sl ces kd pl wt xk xp xw ((fX4_findWorst kd pl wo su N se.toNatClampNeg).1) ((fX4_findWorst kd pl wo su N se.toNatClampNeg).2) ask shw)) hP hD hS [0, 1, 2, 3, 4, 5, 6, 7, 8, 9, 10, 11, 12, 13] rfl rfl rfl (va_runV (As := [.int se]) (rest := []) ⟨hx, hb, hml, hown, hts⟩ (c_X4_findWorst l D cI cS h m1 m2 m3 m4 m5 m6 m7 m8 m9 m10 m11 m12 m13 lf tr an pn gr ax ra rp rg rd so sl ces kd pl wt xk xp xw wo su ask shw N se.toNatClampNeg se ha hN hq.1 hq.2) (cwV 1 hts gX4_mean_X4_findWorst rfl rfl rfl q_X4_findWorst ⟨Nat.le_of_ble_eq_true rfl, Nat.le_of_ble_eq_true rfl⟩) (kMV hK hP hD [0, 1, 2, 3, 4, 5, 6, 7, 8, 9, 10, 11, 12, 13] rfl rfl (va_recv hK.1 hP (ci := 4) (q0 := 0) rfl rfl) [.int se]) rfl rfl hl.1 rfl (lv_room (Nat.le_of_ble_eq_true rfl)) dX4_mean_34 ⟨Nat.zero_le _, Nat.zero_le _⟩) (fun H locs hP hD hS => ?_)
    refine lv_aload_n hx hb dX4_mean_37 rfl (lv_at hl 0 rfl) ?_
    refine va_get (D := D) (ci := 4) (v := .ref m11) (C := RX4) (T := TX4) (N := 23) hx hb hts (fun _ h => List.mem_cons_of_mem _ (List.mem_append_right _ h)) hown hK.1 hP 0 rfl rfl 19 (by decide) (hts (.fieldLink RX4 40 "LieNightsModel" "sumOf" "[I") (List.mem_of_getElem? (i := 3) rfl)) (fun _ h9 => h9) rfl dX4_mean_38 ?_
    refine lv_iload_n hx hb dX4_mean_41 rfl (lv_at hl 1 rfl) ?_
    refine va_iald hx hb hK.1 hP 11 0 rfl rfl (mNat hq.1 hq.2 (by decide)) dX4_mean_42 ?_
    refine lv_i2l (v := Int32.toInt64 (((fX4_findWorst kd pl wo su N se.toNatClampNeg).2) se.toNatClampNeg)) hx hb dX4_mean_43 rfl ?_
    rw [show (Int32.toInt64 (((fX4_findWorst kd pl wo su N se.toNatClampNeg).2) se.toNatClampNeg)) = (lN Q) from (mL (hqv c16) hQb)]
    refine lv_iload_n hx hb dX4_mean_44 rfl (lv_at hl 1 rfl) ?_
    refine kPi (va_runS (As := [.int se]) (rest := [.long (lN Q)]) ⟨hx, hb, hml, hown, hts⟩ (c_X4_size l D cI cS se.toNatClampNeg se hq.1 hq.2) (va_cwS 1 hts gX4_mean_X4_size rfl rfl rfl q_X4_size.2 ⟨Nat.le_of_ble_eq_true rfl, Nat.le_of_ble_eq_true rfl⟩) (kPS hK hP [] rfl [.int se]) rfl rfl hl.1 rfl (lv_room (Nat.le_of_ble_eq_true rfl)) dX4_mean_45 ⟨Nat.zero_le _, Nat.zero_le _⟩) ?_
    refine lv_i2l (v := Int32.toInt64 (fX4_size se.toNatClampNeg)) hx hb dX4_mean_48 rfl ?_
    rw [show (Int32.toInt64 (fX4_size se.toNatClampNeg)) = (lN Z) from (mL (hZ c16 c8).1 hZb)]
    refine lv_iload_n hx hb dX4_mean_49 rfl (lv_at hl 2 rfl) ?_
    refine kPl (va_runS (As := [.long (lN Q), .long (lN Z), .int wh]) (rest := []) ⟨hx, hb, hml, hown, hts⟩ (c_X4_inLeastTerms l D cI cS Q Z wh hQb hZb (hZ c16 c8).2) (va_cwS 3 hts gX4_mean_X4_inLeastTerms rfl rfl rfl q_X4_inLeastTerms.2 ⟨Nat.le_of_ble_eq_true rfl, Nat.le_of_ble_eq_true rfl⟩) (kPS hK hP [] rfl [.long (lN Q), .long (lN Z), .int wh]) rfl rfl hl.1 rfl (lv_room (Nat.le_of_ble_eq_true rfl)) dX4_mean_50 ⟨Nat.zero_le _, Nat.zero_le _⟩) ?_
    have hR4 : (fX4_mean an kd pl wo su N Q Z se wh) = ((fX4_inLeastTerms Q Z wh), (fX4_findWorst kd pl wo su N se.toNatClampNeg).1, (fX4_findWorst kd pl wo su N se.toNatClampNeg).2) := (by unfold fX4_mean; rw [if_neg c4, if_neg c8, if_neg c16, if_neg c25])
    rw [hQ]
    exact W.lret (v := (fX4_inLeastTerms Q Z wh)) hx hb hr (fun t ht hW => ⟨⟨_, (), rfl, (by show _ = _; rw [hR4]), (by show va_P D vwCl _ t.heap; rw [hR4, ht]; exact hP)⟩, hS.F ht⟩) hS.2.2 dX4_mean_53
  refine lv_ldc2 hx hb hown (hts (.constantLong RX4 53 (-9223372036854775808)) (List.mem_of_getElem? (i := 2) rfl)) dX4_mean_28 ?_
  have hR5 : (fX4_mean an kd pl wo su N Q Z se wh) = ((-9223372036854775808), wo, su) := (by unfold fX4_mean; rw [if_neg c4, if_neg c8, if_neg c16, if_pos c25])
  rw [hQ]
  exact W.lret (v := (-9223372036854775808)) hx hb hr (fun t ht hW => ⟨⟨_, (), rfl, (by show _ = _; rw [hR5]), (by show va_P D vwCl _ t.heap; rw [hR5, ht]; exact hP)⟩, hS.F ht⟩) hS.2.2 dX4_mean_31

def aX4_odds_47 (kd pl wo su : Nat → Int32) (N Mo : Nat) (wh v3_47 : Int32) : (Int64 × (Nat → Int32) × (Nat → Int32)) := ((fX4_inLeastTerms v3_47.toNatClampNeg N wh), (fX4_findWorst kd pl wo su N Mo).1, (fX4_findWorst kd pl wo su N Mo).2)
def sX4_odds_47 (an : Int32) (kd pl wo su : Nat → Int32) (N Mo : Nat) (nn : Int32) (k47 : Nat) (v3_47 : Int32) : (Int32) := (if (fX4_isBound an kd pl ((fX4_findWorst kd pl wo su N Mo).1) N nn.toNatClampNeg (nI k47)) = 0 then (v3_47 + 0) else (v3_47 + 1))
def fX4_odds (an : Int32) (kd pl wo su : Nat → Int32) (N Mo : Nat) (nn wh : Int32) : Int64 × (Nat → Int32) × (Nat → Int32) := (if an = 0 then ((-9223372036854775808), wo, su) else (if (fX4_within nn 0 9) = 0 then ((-9223372036854775808), wo, su) else (if (fX4_within wh 0 1) = 0 then ((-9223372036854775808), wo, su) else (aX4_odds_47 kd pl wo su N Mo wh (lp (fun k a => sX4_odds_47 an kd pl wo su N Mo nn k a) 0 N)))))
theorem q_X4_odds : yX4_odds.cls = RX4 ∧ yX4_odds.cls ≠ "java/lang/invoke/MethodHandle" ∧ yX4_odds.cls ≠ "java/lang/invoke/VarHandle" ∧ (parseMethodDescriptor yX4_odds.desc).map (fun d => d.parameters.length) = some 2 := by decide +kernel
set_option maxHeartbeats 4000000 in
set_option maxRecDepth 100000 in
theorem c_X4_odds (l : Launch) (D : va_G) (cI cS : ClassId) (h m1 m2 m3 m4 m5 m6 m7 m8 m9 m10 m11 m12 m13 : Nat) (lf tr an pn gr ax ra rp rg rd : Int32) (so sl ces kd pl wt xk xp xw wo su ask shw : Nat → Int32) (N Mo : Nat) (PQ : Nat → Int32 → Prop) (nn wh : Int32) (ha : an = nI N) (hN : N ≤ 6) (hmo : ((1 : Int32) <<< (an &&& 31)) - 1 = nI Mo) (hMo : Mo < 64) (hQ0 : ∀ k, k < N → PQ k ((1 <<< (an &&& 31)) - 1)) (hQ1 : ∀ k, ∀ s9, PQ k s9 → vp_in s9 64) (hQ2 : ∀ k, ∀ s9, PQ k s9 → vp_in (fX4_askOf kd pl (fX4_findWorst kd pl wo su N Mo).1 N s9) 6) (hQ3 : ∀ k, k < N → ∀ s9, PQ k s9 → ¬ (fX4_askOf kd pl (fX4_findWorst kd pl wo su N Mo).1 N s9) = (nI k) → PQ k (fX4_group kd pl N (fX4_askOf kd pl (fX4_findWorst kd pl wo su N Mo).1 N s9) (fX4_shownBy kd pl (fX4_askOf kd pl (fX4_findWorst kd pl wo su N Mo).1 N s9) (nI k)) s9)) : MMl l yX4_odds wsX4_odds { frames := 5, cells := 0, slots := 0, locals := 120 } D cI cS (wMo cI h m1 m2 m3 m4 m5 m6 m7 m8 m9 m10 m11 m12 m13 lf tr an pn gr ax ra rp rg rd so sl ces kd pl wt xk xp xw wo su ask shw) [.ref h, .int nn, .int wh] ((fX4_odds an kd pl wo su N Mo nn wh).1) (wMo cI h m1 m2 m3 m4 m5 m6 m7 m8 m9 m10 m11 m12 m13 lf tr an pn gr ax ra rp rg rd so sl ces kd pl wt xk xp xw ((fX4_odds an kd pl wo su N Mo nn wh).2.1) ((fX4_odds an kd pl wo su N Mo nn wh).2.2) ask shw) := by
  refine kEnterM (cc := cX4_odds) (maxL := 5) (ret := (some .long)) (by decide) rfl (Nat.le_of_ble_eq_true rfl) ?_
  intro p e s m below meth c ls Qf hQ hx hb hml hr hlocks hown hts hK hP hD hS hl
  have hown : s.vm.findClass RX4 = some m.cls := hown
  have hl : lv_has ls 5 [(0, .ref h), (1, .int nn), (2, .int wh)] := hl
  generalize kA (wMo cI h m1 m2 m3 m4 m5 m6 m7 m8 m9 m10 m11 m12 m13 lf tr an pn gr ax ra rp rg rd so sl ces kd pl wt xk xp xw wo su ask shw) = A at hQ hD hS
  refine lv_aload_n hx hb dX4_odds_0 rfl (lv_at hl 0 rfl) ?_
  refine va_get (D := D) (ci := 4) (v := .int an) (C := RX4) (T := TX4) (N := 23) hx hb hts (fun _ h => List.mem_cons_of_mem _ (List.mem_append_right _ h)) hown hK.1 hP 0 rfl rfl 5 (by decide) (hts (.fieldLink RX4 59 "LieNightsModel" "answers" "I") (List.mem_of_getElem? (i := 1) rfl)) (fun _ h9 => h9) rfl dX4_odds_1 ?_
  refine lv_if_eq (tgt := 26) hx hb dX4_odds_4 (by decide) (fun c4 => ?_) (fun c4 => ?_)
  · skip
    refine lv_ldc2 hx hb hown (hts (.constantLong RX4 53 (-9223372036854775808)) (List.mem_of_getElem? (i := 2) rfl)) dX4_odds_26 ?_
    have hR1 : (fX4_odds an kd pl wo su N Mo nn wh) = ((-9223372036854775808), wo, su) := (by unfold fX4_odds; rw [if_pos c4])
    rw [hQ]
    exact W.lret (v := (-9223372036854775808)) hx hb hr (fun t ht hW => ⟨⟨_, (), rfl, (by show _ = _; rw [hR1]), (by show va_P D vwCl _ t.heap; rw [hR1, ht]; exact hP)⟩, hS.F ht⟩) hS.2.2 dX4_odds_29
  refine lv_iload_n hx hb dX4_odds_7 rfl (lv_at hl 1 rfl) ?_
  refine lv_iconst (v := 0) hx hb dX4_odds_8 (by decide) ?_
  refine lv_bipush (v := 9) hx hb dX4_odds_9 (by decide) ?_
  refine kPi (va_runS (As := [.int nn, .int 0, .int 9]) (rest := []) ⟨hx, hb, hml, hown, hts⟩ (c_X4_within l D cI cS nn 0 9) (va_cwS 3 hts gX4_odds_X4_within rfl rfl rfl q_X4_within.2 ⟨Nat.le_of_ble_eq_true rfl, Nat.le_of_ble_eq_true rfl⟩) (kPS hK hP [] rfl [.int nn, .int 0, .int 9]) rfl rfl hl.1 rfl (lv_room (Nat.le_of_ble_eq_true rfl)) dX4_odds_11 ⟨Nat.zero_le _, Nat.zero_le _⟩) ?_
  refine lv_if_eq (tgt := 26) hx hb dX4_odds_14 (by decide) (fun c14 => ?_) (fun c14 => ?_)
  · skip
    refine lv_ldc2 hx hb hown (hts (.constantLong RX4 53 (-9223372036854775808)) (List.mem_of_getElem? (i := 2) rfl)) dX4_odds_26 ?_
    have hR2 : (fX4_odds an kd pl wo su N Mo nn wh) = ((-9223372036854775808), wo, su) := (by unfold fX4_odds; rw [if_neg c4, if_pos c14])
    rw [hQ]
    exact W.lret (v := (-9223372036854775808)) hx hb hr (fun t ht hW => ⟨⟨_, (), rfl, (by show _ = _; rw [hR2]), (by show va_P D vwCl _ t.heap; rw [hR2, ht]; exact hP)⟩, hS.F ht⟩) hS.2.2 dX4_odds_29
  refine lv_iload_n hx hb dX4_odds_17 rfl (lv_at hl 2 rfl) ?_
  refine lv_iconst (v := 0) hx hb dX4_odds_18 (by decide) ?_
  refine lv_iconst (v := 1) hx hb dX4_odds_19 (by decide) ?_
  refine kPi (va_runS (As := [.int wh, .int 0, .int 1]) (rest := []) ⟨hx, hb, hml, hown, hts⟩ (c_X4_within l D cI cS wh 0 1) (va_cwS 3 hts gX4_odds_X4_within rfl rfl rfl q_X4_within.2 ⟨Nat.le_of_ble_eq_true rfl, Nat.le_of_ble_eq_true rfl⟩) (kPS hK hP [] rfl [.int wh, .int 0, .int 1]) rfl rfl hl.1 rfl (lv_room (Nat.le_of_ble_eq_true rfl)) dX4_odds_20 ⟨Nat.zero_le _, Nat.zero_le _⟩) ?_
  refine lv_if_ne (tgt := 30) hx hb dX4_odds_23 (by decide) (fun c23 => ?_) (fun c23 => ?_)
  · skip
    have hw := mWith 9 (by decide) c14
    refine lv_aload_n hx hb dX4_odds_30 rfl (lv_at hl 0 rfl) ?_
    refine lv_iconst (v := 1) hx hb dX4_odds_31 (by decide) ?_
    refine lv_aload_n hx hb dX4_odds_32 rfl (lv_at hl 0 rfl) ?_
    refine va_get (D := D) (ci := 4) (v := .int an) (C := RX4) (T := TX4) (N := 23) hx hb hts (fun _ h => List.mem_cons_of_mem _ (List.mem_append_right _ h)) hown hK.1 hP 0 rfl rfl 5 (by decide) (hts (.fieldLink RX4 59 "LieNightsModel" "answers" "I") (List.mem_of_getElem? (i := 1) rfl)) (fun _ h9 => h9) rfl dX4_odds_33 ?_
    refine lv_ishl hx hb dX4_odds_36 ?_
    refine lv_iconst (v := 1) hx hb dX4_odds_37 (by decide) ?_
    refine lv_isub hx hb dX4_odds_38 ?_
    refine kMv (wl' := (wMo cI h m1 m2 m3 m4 m5 m6 m7 m8 m9 m10 m11 m12 m13 lf tr an pn gr ax ra rp rg rd so sl ces kd pl wt xk xp xw ((fX4_findWorst kd pl wo su N Mo).1) ((fX4_findWorst kd pl wo su N Mo).2) ask shw)) (wc := (wMo cI h m1 m2 m3 m4 m5 m6 m7 m8 m9 m10 m11 m12 m13 lf tr an pn gr ax ra rp rg rd so sl ces kd pl wt xk xp xw wo su ask shw)) (w1 := (wMo cI h m1 m2 m3 m4 m5 m6 m7 m8 m9 m10 m11 m12 m13 lf tr an pn gr ax ra rp rg rd so sl ces kd pl wt xk xp xw ((fX4_findWorst kd pl wo su N Mo).1) ((fX4_findWorst kd pl wo su N Mo).2) ask shw)) hP hD hS [0, 1, 2, 3, 4, 5, 6, 7, 8, 9, 10, 11, 12, 13] rfl rfl rfl (va_runV (As := [.int ((1 <<< (an &&& 31)) - 1)]) (rest := []) ⟨hx, hb, hml, hown, hts⟩ (c_X4_findWorst l D cI cS h m1 m2 m3 m4 m5 m6 m7 m8 m9 m10 m11 m12 m13 lf tr an pn gr ax ra rp rg rd so sl ces kd pl wt xk xp xw wo su ask shw N Mo ((1 <<< (an &&& 31)) - 1) ha hN hmo hMo) (cwV 1 hts gX4_odds_X4_findWorst rfl rfl rfl q_X4_findWorst ⟨Nat.le_of_ble_eq_true rfl, Nat.le_of_ble_eq_true rfl⟩) (kMV hK hP hD [0, 1, 2, 3, 4, 5, 6, 7, 8, 9, 10, 11, 12, 13] rfl rfl (va_recv hK.1 hP (ci := 4) (q0 := 0) rfl rfl) [.int ((1 <<< (an &&& 31)) - 1)]) rfl rfl hl.1 rfl (lv_room (Nat.le_of_ble_eq_true rfl)) dX4_odds_39 ⟨Nat.zero_le _, Nat.zero_le _⟩) (fun H locs hP hD hS => ?_)
    refine lv_iconst (v := 0) hx hb dX4_odds_42 (by decide) ?_
    refine lv_istore_n (lv' := [(3, .int 0), (0, .ref h), (1, .int nn), (2, .int wh)]) hx hb dX4_odds_43 rfl hl (by decide) rfl (fun ls hl => ?_)
    refine lv_iconst (v := 0) hx hb dX4_odds_44 (by decide) ?_
    refine lv_istore (lv' := [(4, .int 0), (3, .int 0), (0, .ref h), (1, .int nn), (2, .int wh)]) hx hb dX4_odds_45 hl (by decide) rfl (fun ls hl => ?_)
    have hR3 : (fX4_odds an kd pl wo su N Mo nn wh) = (aX4_odds_47 kd pl wo su N Mo wh (lp (fun k a => sX4_odds_47 an kd pl wo su N Mo nn k a) 0 N)) := (by unfold fX4_odds; rw [if_neg c4, if_neg c14, if_neg c23])
    have loop47 : ∀ (n k47 : Nat), k47 ≤ N → N + 1 ≤ k47 + n → ∀ (v3_47 : Int32), lp (fun k a => sX4_odds_47 an kd pl wo su N Mo nn k a) 0 k47 = v3_47 → (v3_47 = nI v3_47.toNatClampNeg ∧ v3_47.toNatClampNeg ≤ k47) → ∀ (H : Heap) (locs : List Loc), va_P D vwCl (wMo cI h m1 m2 m3 m4 m5 m6 m7 m8 m9 m10 m11 m12 m13 lf tr an pn gr ax ra rp rg rd so sl ces kd pl wt xk xp xw ((fX4_findWorst kd pl wo su N Mo).1) ((fX4_findWorst kd pl wo su N Mo).2) ask shw) H → va_D A (wMo cI h m1 m2 m3 m4 m5 m6 m7 m8 m9 m10 m11 m12 m13 lf tr an pn gr ax ra rp rg rd so sl ces kd pl wt xk xp xw ((fX4_findWorst kd pl wo su N Mo).1) ((fX4_findWorst kd pl wo su N Mo).2) ask shw) → va_S A s.heap H locs → ∀ (ls : Array Slot), lv_has ls 5 [(0, .ref h), (1, .int nn), (2, .int wh), (3, .int v3_47), (4, .int (nI k47))] → W p l e { frames := 5, cells := 0, slots := 0, locals := 120 } s m ([.ref h, .int nn, .int wh] : List Value).toArray below meth c H locs 0 0 Qf (F0 m 47 ls []) := by
      intro n
      induction n with
      | zero => intro k47 h1 h2; exact absurd h2 (by omega)
      | succ n ih =>
        intro k47 hk47 hn47 v3_47 hacc47 hv3 H locs hP hD hS ls hl
        have ih47 := ih
        refine lv_iload hx hb dX4_odds_47 (lv_at hl 4 rfl) ?_
        refine lv_aload_n hx hb dX4_odds_49 rfl (lv_at hl 0 rfl) ?_
        refine va_get (D := D) (ci := 4) (v := .int an) (C := RX4) (T := TX4) (N := 23) hx hb hts (fun _ h => List.mem_cons_of_mem _ (List.mem_append_right _ h)) hown hK.1 hP 0 rfl rfl 5 (by decide) (hts (.fieldLink RX4 59 "LieNightsModel" "answers" "I") (List.mem_of_getElem? (i := 1) rfl)) (fun _ h9 => h9) rfl dX4_odds_50 ?_
        refine lv_icmp_ge (tgt := 80) hx hb dX4_odds_53 (by decide) (fun c53 => ?_) (fun c53 => ?_)
        · skip
          have hkN : k47 = N := (kEnd hk47 rfl ha (by omega) c53)
          rw [hkN] at hacc47
          have hR4 : (fX4_odds an kd pl wo su N Mo nn wh) = aX4_odds_47 kd pl wo su N Mo wh v3_47 := hR3.trans (lp_end (x := v3_47) (g := (fun a => aX4_odds_47 kd pl wo su N Mo wh a)) hacc47)
          refine lv_iload_n hx hb dX4_odds_80 rfl (lv_at hl 3 rfl) ?_
          refine lv_i2l (v := Int32.toInt64 v3_47) hx hb dX4_odds_81 rfl ?_
          rw [show (Int32.toInt64 v3_47) = (lN v3_47.toNatClampNeg) from (mL hv3.1 (by omega))]
          refine lv_aload_n hx hb dX4_odds_82 rfl (lv_at hl 0 rfl) ?_
          refine va_get (D := D) (ci := 4) (v := .int an) (C := RX4) (T := TX4) (N := 23) hx hb hts (fun _ h => List.mem_cons_of_mem _ (List.mem_append_right _ h)) hown hK.1 hP 0 rfl rfl 5 (by decide) (hts (.fieldLink RX4 59 "LieNightsModel" "answers" "I") (List.mem_of_getElem? (i := 1) rfl)) (fun _ h9 => h9) rfl dX4_odds_83 ?_
          refine lv_i2l (v := Int32.toInt64 an) hx hb dX4_odds_86 rfl ?_
          rw [show (Int32.toInt64 an) = (lN N) from (mL ha (by omega))]
          refine lv_iload_n hx hb dX4_odds_87 rfl (lv_at hl 2 rfl) ?_
          refine kPl (va_runS (As := [.long (lN v3_47.toNatClampNeg), .long (lN N), .int wh]) (rest := []) ⟨hx, hb, hml, hown, hts⟩ (c_X4_inLeastTerms l D cI cS v3_47.toNatClampNeg N wh (by omega) (by omega) (mPos ha c4)) (va_cwS 3 hts gX4_odds_X4_inLeastTerms rfl rfl rfl q_X4_inLeastTerms.2 ⟨Nat.le_of_ble_eq_true rfl, Nat.le_of_ble_eq_true rfl⟩) (kPS hK hP [] rfl [.long (lN v3_47.toNatClampNeg), .long (lN N), .int wh]) rfl rfl hl.1 rfl (lv_room (Nat.le_of_ble_eq_true rfl)) dX4_odds_88 ⟨Nat.zero_le _, Nat.zero_le _⟩) ?_
          have hR5 : (fX4_odds an kd pl wo su N Mo nn wh) = ((fX4_inLeastTerms v3_47.toNatClampNeg N wh), (fX4_findWorst kd pl wo su N Mo).1, (fX4_findWorst kd pl wo su N Mo).2) := hR4.trans rfl
          rw [hQ]
          exact W.lret (v := (fX4_inLeastTerms v3_47.toNatClampNeg N wh)) hx hb hr (fun t ht hW => ⟨⟨_, (), rfl, (by show _ = _; rw [hR5]), (by show va_P D vwCl _ t.heap; rw [hR5, ht]; exact hP)⟩, hS.F ht⟩) hS.2.2 dX4_odds_91
        have hlt47 : k47 < N := (kLt hk47 rfl ha c53)
        refine lv_iload_n hx hb dX4_odds_56 rfl (lv_at hl 3 rfl) ?_
        refine lv_aload_n hx hb dX4_odds_57 rfl (lv_at hl 0 rfl) ?_
        refine lv_iload hx hb dX4_odds_58 (lv_at hl 4 rfl) ?_
        refine lv_iload_n hx hb dX4_odds_60 rfl (lv_at hl 1 rfl) ?_
        refine kPi (va_runV (As := [.int (nI k47), .int nn]) (rest := [.int v3_47]) ⟨hx, hb, hml, hown, hts⟩ (c_X4_isBound l D cI cS h m1 m2 m3 m4 m5 m6 m7 m8 m9 m10 m11 m12 m13 lf tr an pn gr ax ra rp rg rd so sl ces kd pl wt xk xp xw ((fX4_findWorst kd pl wo su N Mo).1) ((fX4_findWorst kd pl wo su N Mo).2) ask shw N nn.toNatClampNeg (PQ k47) (nI k47) nn ha hN (vp_in_nI (by omega) (by decide)) hw.1 (Nat.le_trans hw.2 (by decide)) (hQ0 k47 hlt47) (hQ1 k47) (hQ2 k47) (hQ3 k47 hlt47)) (cwV 2 hts gX4_odds_X4_isBound rfl rfl rfl q_X4_isBound ⟨Nat.le_of_ble_eq_true rfl, Nat.le_of_ble_eq_true rfl⟩) (kPV hK hP [0, 1, 2, 3, 4, 5, 6, 7, 8, 9, 10, 11, 12, 13] rfl (va_recv hK.1 hP (ci := 4) (q0 := 0) rfl rfl) [.int (nI k47), .int nn]) rfl rfl hl.1 rfl (lv_room (Nat.le_of_ble_eq_true rfl)) dX4_odds_61 ⟨Nat.zero_le _, Nat.zero_le _⟩) ?_
        refine lv_if_eq (tgt := 71) hx hb dX4_odds_64 (by decide) (fun c64 => ?_) (fun c64 => ?_)
        · skip
          refine lv_iconst (v := 0) hx hb dX4_odds_71 (by decide) ?_
          refine lv_iadd hx hb dX4_odds_72 ?_
          refine lv_istore_n (lv' := [(3, .int (v3_47 + 0)), (0, .ref h), (1, .int nn), (2, .int wh), (4, .int (nI k47))]) hx hb dX4_odds_73 rfl hl (by decide) rfl (fun ls hl => ?_)
          refine lv_iinc (v := (nI (k47 + 1))) (lv' := [(4, .int (nI (k47 + 1))), (3, .int (v3_47 + 0)), (0, .ref h), (1, .int nn), (2, .int wh)]) hx hb dX4_odds_74 hl (k := 4) rfl (nI_1 (k47)) (by decide) rfl (fun ls hl => ?_)
          refine lv_goto (tgt := 47) hx hb dX4_odds_77 (by decide) ?_
          have hR6 : sX4_odds_47 an kd pl wo su N Mo nn k47 v3_47 = (v3_47 + 0) := (by unfold sX4_odds_47; rw [if_pos c64])
          exact ih47 (k47 + 1) hlt47 (by omega) _ (lp_next hacc47 hR6) (by first | exact mStep1 hv3 (by omega) | exact mStep0 hv3) _ _ hP hD hS ls (lv_sub hl [2, 3, 4, 1, 0] rfl)
        refine lv_iconst (v := 1) hx hb dX4_odds_67 (by decide) ?_
        refine lv_goto (tgt := 72) hx hb dX4_odds_68 (by decide) ?_
        refine lv_iadd hx hb dX4_odds_72 ?_
        refine lv_istore_n (lv' := [(3, .int (v3_47 + 1)), (0, .ref h), (1, .int nn), (2, .int wh), (4, .int (nI k47))]) hx hb dX4_odds_73 rfl hl (by decide) rfl (fun ls hl => ?_)
        refine lv_iinc (v := (nI (k47 + 1))) (lv' := [(4, .int (nI (k47 + 1))), (3, .int (v3_47 + 1)), (0, .ref h), (1, .int nn), (2, .int wh)]) hx hb dX4_odds_74 hl (k := 4) rfl (nI_1 (k47)) (by decide) rfl (fun ls hl => ?_)
        refine lv_goto (tgt := 47) hx hb dX4_odds_77 (by decide) ?_
        have hR7 : sX4_odds_47 an kd pl wo su N Mo nn k47 v3_47 = (v3_47 + 1) := (by unfold sX4_odds_47; rw [if_neg c64])
        exact ih47 (k47 + 1) hlt47 (by omega) _ (lp_next hacc47 hR7) (by first | exact mStep1 hv3 (by omega) | exact mStep0 hv3) _ _ hP hD hS ls (lv_sub hl [2, 3, 4, 1, 0] rfl)
    exact loop47 (N + 1) 0 (Nat.zero_le _) (by omega) _ rfl ⟨rfl, Nat.le_refl _⟩ _ _ hP hD hS ls (lv_sub hl [2, 3, 4, 1, 0] rfl)
  refine lv_ldc2 hx hb hown (hts (.constantLong RX4 53 (-9223372036854775808)) (List.mem_of_getElem? (i := 2) rfl)) dX4_odds_26 ?_
  have hR8 : (fX4_odds an kd pl wo su N Mo nn wh) = ((-9223372036854775808), wo, su) := (by unfold fX4_odds; rw [if_neg c4, if_neg c14, if_pos c23])
  rw [hQ]
  exact W.lret (v := (-9223372036854775808)) hx hb hr (fun t ht hW => ⟨⟨_, (), rfl, (by show _ = _; rw [hR8]), (by show va_P D vwCl _ t.heap; rw [hR8, ht]; exact hP)⟩, hS.F ht⟩) hS.2.2 dX4_odds_29
