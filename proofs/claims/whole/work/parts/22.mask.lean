def fX4_worst (an : Int32) (kd pl wo su : Nat → Int32) (N : Nat) (se : Int32) : Int32 × (Nat → Int32) × (Nat → Int32) := (if an = 0 then ((-3), wo, su) else (if (fX4_isSet an se) = 0 then ((-2), wo, su) else ((((fX4_findWorst kd pl wo su N se.toNatClampNeg).1) se.toNatClampNeg), (fX4_findWorst kd pl wo su N se.toNatClampNeg).1, (fX4_findWorst kd pl wo su N se.toNatClampNeg).2)))
theorem q_X4_worst : yX4_worst.cls = RX4 ∧ yX4_worst.cls ≠ "java/lang/invoke/MethodHandle" ∧ yX4_worst.cls ≠ "java/lang/invoke/VarHandle" ∧ (parseMethodDescriptor yX4_worst.desc).map (fun d => d.parameters.length) = some 1 := by decide +kernel
set_option maxHeartbeats 4000000 in
set_option maxRecDepth 100000 in
theorem c_X4_worst (l : Launch) (D : va_G) (cI cS : ClassId) (h m1 m2 m3 m4 m5 m6 m7 m8 m9 m10 m11 m12 m13 : Nat) (lf tr an pn gr ax ra rp rg rd : Int32) (so sl ces kd pl wt xk xp xw wo su ask shw : Nat → Int32) (N : Nat) (se : Int32) (ha : an = nI N) (hN : N ≤ 6) : MMi l yX4_worst wsX4_worst { frames := 4, cells := 0, slots := 0, locals := 98 } D cI cS (wMo cI h m1 m2 m3 m4 m5 m6 m7 m8 m9 m10 m11 m12 m13 lf tr an pn gr ax ra rp rg rd so sl ces kd pl wt xk xp xw wo su ask shw) [.ref h, .int se] ((fX4_worst an kd pl wo su N se).1) (wMo cI h m1 m2 m3 m4 m5 m6 m7 m8 m9 m10 m11 m12 m13 lf tr an pn gr ax ra rp rg rd so sl ces kd pl wt xk xp xw ((fX4_worst an kd pl wo su N se).2.1) ((fX4_worst an kd pl wo su N se).2.2) ask shw) := by
  refine kEnterM (cc := cX4_worst) (maxL := 2) (ret := (some .int)) (by decide) rfl (Nat.le_of_ble_eq_true rfl) ?_
  intro p e s m below meth c ls Qf hQ hx hb hml hr hlocks hown hts hK hP hD hS hl
  have hown : s.vm.findClass RX4 = some m.cls := hown
  have hl : lv_has ls 2 [(0, .ref h), (1, .int se)] := hl
  generalize kA (wMo cI h m1 m2 m3 m4 m5 m6 m7 m8 m9 m10 m11 m12 m13 lf tr an pn gr ax ra rp rg rd so sl ces kd pl wt xk xp xw wo su ask shw) = A at hQ hD hS
  refine lv_aload_n hx hb dX4_worst_0 rfl (lv_at hl 0 rfl) ?_
  refine va_get (D := D) (ci := 4) (v := .int an) (C := RX4) (T := TX4) (N := 23) hx hb hts (fun _ h => List.mem_cons_of_mem _ (List.mem_append_right _ h)) hown hK.1 hP 0 rfl rfl 5 (by decide) (hts (.fieldLink RX4 59 "LieNightsModel" "answers" "I") (List.mem_of_getElem? (i := 1) rfl)) (fun _ h9 => h9) rfl dX4_worst_1 ?_
  refine lv_if_ne (tgt := 10) hx hb dX4_worst_4 (by decide) (fun c4 => ?_) (fun c4 => ?_)
  · skip
    refine lv_aload_n hx hb dX4_worst_10 rfl (lv_at hl 0 rfl) ?_
    refine lv_iload_n hx hb dX4_worst_11 rfl (lv_at hl 1 rfl) ?_
    refine kPi (va_runV (As := [.int se]) (rest := []) ⟨hx, hb, hml, hown, hts⟩ (c_X4_isSet l D cI cS h m1 m2 m3 m4 m5 m6 m7 m8 m9 m10 m11 m12 m13 lf tr an pn gr ax ra rp rg rd so sl ces kd pl wt xk xp xw wo su ask shw se) (cwV 1 hts gX4_worst_X4_isSet rfl rfl rfl q_X4_isSet ⟨Nat.le_of_ble_eq_true rfl, Nat.le_of_ble_eq_true rfl⟩) (kPV hK hP [0, 1, 2, 3, 4, 5, 6, 7, 8, 9, 10, 11, 12, 13] rfl (va_recv hK.1 hP (ci := 4) (q0 := 0) rfl rfl) [.int se]) rfl rfl hl.1 rfl (lv_room (Nat.le_of_ble_eq_true rfl)) dX4_worst_12 ⟨Nat.zero_le _, Nat.zero_le _⟩) ?_
    refine lv_if_ne (tgt := 21) hx hb dX4_worst_15 (by decide) (fun c15 => ?_) (fun c15 => ?_)
    · skip
      have hq := mSetC ha hN c15
      refine lv_aload_n hx hb dX4_worst_21 rfl (lv_at hl 0 rfl) ?_
      refine lv_iload_n hx hb dX4_worst_22 rfl (lv_at hl 1 rfl) ?_
      refine kMv (wl' := (wMo cI h m1 m2 m3 m4 m5 m6 m7 m8 m9 m10 m11 m12 m13 lf tr an pn gr ax ra rp rg rd so sl ces kd pl wt xk xp xw ((fX4_findWorst kd pl wo su N se.toNatClampNeg).1) ((fX4_findWorst kd pl wo su N se.toNatClampNeg).2) ask shw)) (wc := (wMo cI h m1 m2 m3 m4 m5 m6 m7 m8 m9 m10 m11 m12 m13 lf tr an pn gr ax ra rp rg rd so sl ces kd pl wt xk xp xw wo su ask shw)) (w1 := (wMo cI h m1 m2 m3 m4 m5 m6 m7 m8 m9 m10 m11 m12 m13 lf tr an pn gr ax ra rp rg rd so sl ces kd pl wt xk xp xw ((fX4_findWorst kd pl wo su N se.toNatClampNeg).1) ((fX4_findWorst kd pl wo su N se.toNatClampNeg).2) ask shw)) hP hD hS [0, 1, 2, 3, 4, 5, 6, 7, 8, 9, 10, 11, 12, 13] rfl rfl rfl (va_runV (As := [.int se]) (rest := []) ⟨hx, hb, hml, hown, hts⟩ (c_X4_findWorst l D cI cS h m1 m2 m3 m4 m5 m6 m7 m8 m9 m10 m11 m12 m13 lf tr an pn gr ax ra rp rg rd so sl ces kd pl wt xk xp xw wo su ask shw N se.toNatClampNeg se ha hN hq.1 hq.2) (cwV 1 hts gX4_worst_X4_findWorst rfl rfl rfl q_X4_findWorst ⟨Nat.le_of_ble_eq_true rfl, Nat.le_of_ble_eq_true rfl⟩) (kMV hK hP hD [0, 1, 2, 3, 4, 5, 6, 7, 8, 9, 10, 11, 12, 13] rfl rfl (va_recv hK.1 hP (ci := 4) (q0 := 0) rfl rfl) [.int se]) rfl rfl hl.1 rfl (lv_room (Nat.le_of_ble_eq_true rfl)) dX4_worst_23 ⟨Nat.zero_le _, Nat.zero_le _⟩) (fun H locs hP hD hS => ?_)
      refine lv_aload_n hx hb dX4_worst_26 rfl (lv_at hl 0 rfl) ?_
      refine va_get (D := D) (ci := 4) (v := .ref m10) (C := RX4) (T := TX4) (N := 23) hx hb hts (fun _ h => List.mem_cons_of_mem _ (List.mem_append_right _ h)) hown hK.1 hP 0 rfl rfl 18 (by decide) (hts (.fieldLink RX4 37 "LieNightsModel" "worstOf" "[I") (List.mem_of_getElem? (i := 2) rfl)) (fun _ h9 => h9) rfl dX4_worst_27 ?_
      refine lv_iload_n hx hb dX4_worst_30 rfl (lv_at hl 1 rfl) ?_
      refine va_iald hx hb hK.1 hP 10 0 rfl rfl (mNat hq.1 hq.2 (by decide)) dX4_worst_31 ?_
      have hR1 : (fX4_worst an kd pl wo su N se) = ((((fX4_findWorst kd pl wo su N se.toNatClampNeg).1) se.toNatClampNeg), (fX4_findWorst kd pl wo su N se.toNatClampNeg).1, (fX4_findWorst kd pl wo su N se.toNatClampNeg).2) := (by unfold fX4_worst; rw [if_neg c4, if_neg c15])
      rw [hQ]
      exact W.iret (v := (((fX4_findWorst kd pl wo su N se.toNatClampNeg).1) se.toNatClampNeg)) hx hb hr (fun t ht hW => ⟨⟨_, (), rfl, (by show _ = _; rw [hR1]), (by show va_P D vwCl _ t.heap; rw [hR1, ht]; exact hP)⟩, hS.F ht⟩) hS.2.2 dX4_worst_32
    refine lv_bipush (v := (-2)) hx hb dX4_worst_18 (by decide) ?_
    have hR2 : (fX4_worst an kd pl wo su N se) = ((-2), wo, su) := (by unfold fX4_worst; rw [if_neg c4, if_pos c15])
    rw [hQ]
    exact W.iret (v := (-2)) hx hb hr (fun t ht hW => ⟨⟨_, (), rfl, (by show _ = _; rw [hR2]), (by show va_P D vwCl _ t.heap; rw [hR2, ht]; exact hP)⟩, hS.F ht⟩) hS.2.2 dX4_worst_20
  refine lv_bipush (v := (-3)) hx hb dX4_worst_7 (by decide) ?_
  have hR3 : (fX4_worst an kd pl wo su N se) = ((-3), wo, su) := (by unfold fX4_worst; rw [if_pos c4])
  rw [hQ]
  exact W.iret (v := (-3)) hx hb hr (fun t ht hW => ⟨⟨_, (), rfl, (by show _ = _; rw [hR3]), (by show va_P D vwCl _ t.heap; rw [hR3, ht]; exact hP)⟩, hS.F ht⟩) hS.2.2 dX4_worst_9

def fX4_ask (an : Int32) (kd pl wo su : Nat → Int32) (N : Nat) (se : Int32) : Int32 × (Nat → Int32) × (Nat → Int32) := (if an = 0 then ((-3), wo, su) else (if (fX4_isSet an se) = 0 then ((-2), wo, su) else ((fX4_askOf kd pl ((fX4_findWorst kd pl wo su N se.toNatClampNeg).1) N se), (fX4_findWorst kd pl wo su N se.toNatClampNeg).1, (fX4_findWorst kd pl wo su N se.toNatClampNeg).2)))
theorem q_X4_ask : yX4_ask.cls = RX4 ∧ yX4_ask.cls ≠ "java/lang/invoke/MethodHandle" ∧ yX4_ask.cls ≠ "java/lang/invoke/VarHandle" ∧ (parseMethodDescriptor yX4_ask.desc).map (fun d => d.parameters.length) = some 1 := by decide +kernel
set_option maxHeartbeats 4000000 in
set_option maxRecDepth 100000 in
theorem c_X4_ask (l : Launch) (D : va_G) (cI cS : ClassId) (h m1 m2 m3 m4 m5 m6 m7 m8 m9 m10 m11 m12 m13 : Nat) (lf tr an pn gr ax ra rp rg rd : Int32) (so sl ces kd pl wt xk xp xw wo su ask shw : Nat → Int32) (N : Nat) (se : Int32) (ha : an = nI N) (hN : N ≤ 6) : MMi l yX4_ask wsX4_ask { frames := 4, cells := 0, slots := 0, locals := 98 } D cI cS (wMo cI h m1 m2 m3 m4 m5 m6 m7 m8 m9 m10 m11 m12 m13 lf tr an pn gr ax ra rp rg rd so sl ces kd pl wt xk xp xw wo su ask shw) [.ref h, .int se] ((fX4_ask an kd pl wo su N se).1) (wMo cI h m1 m2 m3 m4 m5 m6 m7 m8 m9 m10 m11 m12 m13 lf tr an pn gr ax ra rp rg rd so sl ces kd pl wt xk xp xw ((fX4_ask an kd pl wo su N se).2.1) ((fX4_ask an kd pl wo su N se).2.2) ask shw) := by
  refine kEnterM (cc := cX4_ask) (maxL := 2) (ret := (some .int)) (by decide) rfl (Nat.le_of_ble_eq_true rfl) ?_
  intro p e s m below meth c ls Qf hQ hx hb hml hr hlocks hown hts hK hP hD hS hl
  have hown : s.vm.findClass RX4 = some m.cls := hown
  have hl : lv_has ls 2 [(0, .ref h), (1, .int se)] := hl
  generalize kA (wMo cI h m1 m2 m3 m4 m5 m6 m7 m8 m9 m10 m11 m12 m13 lf tr an pn gr ax ra rp rg rd so sl ces kd pl wt xk xp xw wo su ask shw) = A at hQ hD hS
  refine lv_aload_n hx hb dX4_ask_0 rfl (lv_at hl 0 rfl) ?_
  refine va_get (D := D) (ci := 4) (v := .int an) (C := RX4) (T := TX4) (N := 23) hx hb hts (fun _ h => List.mem_cons_of_mem _ (List.mem_append_right _ h)) hown hK.1 hP 0 rfl rfl 5 (by decide) (hts (.fieldLink RX4 59 "LieNightsModel" "answers" "I") (List.mem_of_getElem? (i := 1) rfl)) (fun _ h9 => h9) rfl dX4_ask_1 ?_
  refine lv_if_ne (tgt := 10) hx hb dX4_ask_4 (by decide) (fun c4 => ?_) (fun c4 => ?_)
  · skip
    refine lv_aload_n hx hb dX4_ask_10 rfl (lv_at hl 0 rfl) ?_
    refine lv_iload_n hx hb dX4_ask_11 rfl (lv_at hl 1 rfl) ?_
    refine kPi (va_runV (As := [.int se]) (rest := []) ⟨hx, hb, hml, hown, hts⟩ (c_X4_isSet l D cI cS h m1 m2 m3 m4 m5 m6 m7 m8 m9 m10 m11 m12 m13 lf tr an pn gr ax ra rp rg rd so sl ces kd pl wt xk xp xw wo su ask shw se) (cwV 1 hts gX4_ask_X4_isSet rfl rfl rfl q_X4_isSet ⟨Nat.le_of_ble_eq_true rfl, Nat.le_of_ble_eq_true rfl⟩) (kPV hK hP [0, 1, 2, 3, 4, 5, 6, 7, 8, 9, 10, 11, 12, 13] rfl (va_recv hK.1 hP (ci := 4) (q0 := 0) rfl rfl) [.int se]) rfl rfl hl.1 rfl (lv_room (Nat.le_of_ble_eq_true rfl)) dX4_ask_12 ⟨Nat.zero_le _, Nat.zero_le _⟩) ?_
    refine lv_if_ne (tgt := 21) hx hb dX4_ask_15 (by decide) (fun c15 => ?_) (fun c15 => ?_)
    · skip
      have hq := mSetC ha hN c15
      refine lv_aload_n hx hb dX4_ask_21 rfl (lv_at hl 0 rfl) ?_
      refine lv_iload_n hx hb dX4_ask_22 rfl (lv_at hl 1 rfl) ?_
      refine kMv (wl' := (wMo cI h m1 m2 m3 m4 m5 m6 m7 m8 m9 m10 m11 m12 m13 lf tr an pn gr ax ra rp rg rd so sl ces kd pl wt xk xp xw ((fX4_findWorst kd pl wo su N se.toNatClampNeg).1) ((fX4_findWorst kd pl wo su N se.toNatClampNeg).2) ask shw)) (wc := (wMo cI h m1 m2 m3 m4 m5 m6 m7 m8 m9 m10 m11 m12 m13 lf tr an pn gr ax ra rp rg rd so sl ces kd pl wt xk xp xw wo su ask shw)) (w1 := (wMo cI h m1 m2 m3 m4 m5 m6 m7 m8 m9 m10 m11 m12 m13 lf tr an pn gr ax ra rp rg rd so sl ces kd pl wt xk xp xw ((fX4_findWorst kd pl wo su N se.toNatClampNeg).1) ((fX4_findWorst kd pl wo su N se.toNatClampNeg).2) ask shw)) hP hD hS [0, 1, 2, 3, 4, 5, 6, 7, 8, 9, 10, 11, 12, 13] rfl rfl rfl (va_runV (As := [.int se]) (rest := []) ⟨hx, hb, hml, hown, hts⟩ (c_X4_findWorst l D cI cS h m1 m2 m3 m4 m5 m6 m7 m8 m9 m10 m11 m12 m13 lf tr an pn gr ax ra rp rg rd so sl ces kd pl wt xk xp xw wo su ask shw N se.toNatClampNeg se ha hN hq.1 hq.2) (cwV 1 hts gX4_ask_X4_findWorst rfl rfl rfl q_X4_findWorst ⟨Nat.le_of_ble_eq_true rfl, Nat.le_of_ble_eq_true rfl⟩) (kMV hK hP hD [0, 1, 2, 3, 4, 5, 6, 7, 8, 9, 10, 11, 12, 13] rfl rfl (va_recv hK.1 hP (ci := 4) (q0 := 0) rfl rfl) [.int se]) rfl rfl hl.1 rfl (lv_room (Nat.le_of_ble_eq_true rfl)) dX4_ask_23 ⟨Nat.zero_le _, Nat.zero_le _⟩) (fun H locs hP hD hS => ?_)
      refine lv_aload_n hx hb dX4_ask_26 rfl (lv_at hl 0 rfl) ?_
      refine lv_iload_n hx hb dX4_ask_27 rfl (lv_at hl 1 rfl) ?_
      refine kPi (va_runV (As := [.int se]) (rest := []) ⟨hx, hb, hml, hown, hts⟩ (c_X4_askOf l D cI cS h m1 m2 m3 m4 m5 m6 m7 m8 m9 m10 m11 m12 m13 lf tr an pn gr ax ra rp rg rd so sl ces kd pl wt xk xp xw ((fX4_findWorst kd pl wo su N se.toNatClampNeg).1) ((fX4_findWorst kd pl wo su N se.toNatClampNeg).2) ask shw N se ha hN (mNat hq.1 hq.2 (by decide))) (cwV 1 hts gX4_ask_X4_askOf rfl rfl rfl q_X4_askOf ⟨Nat.le_of_ble_eq_true rfl, Nat.le_of_ble_eq_true rfl⟩) (kPV hK hP [0, 1, 2, 3, 4, 5, 6, 7, 8, 9, 10, 11, 12, 13] rfl (va_recv hK.1 hP (ci := 4) (q0 := 0) rfl rfl) [.int se]) rfl rfl hl.1 rfl (lv_room (Nat.le_of_ble_eq_true rfl)) dX4_ask_28 ⟨Nat.zero_le _, Nat.zero_le _⟩) ?_
      have hR1 : (fX4_ask an kd pl wo su N se) = ((fX4_askOf kd pl ((fX4_findWorst kd pl wo su N se.toNatClampNeg).1) N se), (fX4_findWorst kd pl wo su N se.toNatClampNeg).1, (fX4_findWorst kd pl wo su N se.toNatClampNeg).2) := (by unfold fX4_ask; rw [if_neg c4, if_neg c15])
      rw [hQ]
      exact W.iret (v := (fX4_askOf kd pl ((fX4_findWorst kd pl wo su N se.toNatClampNeg).1) N se)) hx hb hr (fun t ht hW => ⟨⟨_, (), rfl, (by show _ = _; rw [hR1]), (by show va_P D vwCl _ t.heap; rw [hR1, ht]; exact hP)⟩, hS.F ht⟩) hS.2.2 dX4_ask_31
    refine lv_bipush (v := (-2)) hx hb dX4_ask_18 (by decide) ?_
    have hR2 : (fX4_ask an kd pl wo su N se) = ((-2), wo, su) := (by unfold fX4_ask; rw [if_neg c4, if_pos c15])
    rw [hQ]
    exact W.iret (v := (-2)) hx hb hr (fun t ht hW => ⟨⟨_, (), rfl, (by show _ = _; rw [hR2]), (by show va_P D vwCl _ t.heap; rw [hR2, ht]; exact hP)⟩, hS.F ht⟩) hS.2.2 dX4_ask_20
  refine lv_bipush (v := (-3)) hx hb dX4_ask_7 (by decide) ?_
  have hR3 : (fX4_ask an kd pl wo su N se) = ((-3), wo, su) := (by unfold fX4_ask; rw [if_pos c4])
  rw [hQ]
  exact W.iret (v := (-3)) hx hb hr (fun t ht hW => ⟨⟨_, (), rfl, (by show _ = _; rw [hR3]), (by show va_P D vwCl _ t.heap; rw [hR3, ht]; exact hP)⟩, hS.F ht⟩) hS.2.2 dX4_ask_9

def aX4_isBound_12 (v3_12 : Int32) : Int32 := 0
def sX4_isBound_12 (kd pl wo : Nat → Int32) (N : Nat) (t : Int32) (k12 : Nat) (v3_12 : Int32) : (Int32) ⊕ Int32 := (if (fX4_askOf kd pl wo N v3_12) = t then (.inr 1) else (.inl (fX4_group kd pl N (fX4_askOf kd pl wo N v3_12) (fX4_shownBy kd pl (fX4_askOf kd pl wo N v3_12) t) v3_12)))
def fX4_isBound (an : Int32) (kd pl wo : Nat → Int32) (N Nn : Nat) (t : Int32) : Int32 := (lqr (lq (fun k a => sX4_isBound_12 kd pl wo N t k a) ((1 <<< (an &&& 31)) - 1) Nn) (fun a => aX4_isBound_12  a))
theorem q_X4_isBound : yX4_isBound.cls = RX4 ∧ yX4_isBound.cls ≠ "java/lang/invoke/MethodHandle" ∧ yX4_isBound.cls ≠ "java/lang/invoke/VarHandle" ∧ (parseMethodDescriptor yX4_isBound.desc).map (fun d => d.parameters.length) = some 2 := by decide +kernel
set_option maxHeartbeats 4000000 in
set_option maxRecDepth 100000 in
theorem c_X4_isBound (l : Launch) (D : va_G) (cI cS : ClassId) (h m1 m2 m3 m4 m5 m6 m7 m8 m9 m10 m11 m12 m13 : Nat) (lf tr an pn gr ax ra rp rg rd : Int32) (so sl ces kd pl wt xk xp xw wo su ask shw : Nat → Int32) (N Nn : Nat) (PP : Int32 → Prop) (t nn : Int32) (ha : an = nI N) (hN : N ≤ 6) (hit : vp_in t 6) (hn : nn = nI Nn) (hNn : Nn ≤ 60) (hP0 : PP ((1 <<< (an &&& 31)) - 1)) (hP1 : ∀ s9, PP s9 → vp_in s9 64) (hP2 : ∀ s9, PP s9 → vp_in (fX4_askOf kd pl wo N s9) 6) (hP3 : ∀ s9, PP s9 → ¬ (fX4_askOf kd pl wo N s9) = t → PP (fX4_group kd pl N (fX4_askOf kd pl wo N s9) (fX4_shownBy kd pl (fX4_askOf kd pl wo N s9) t) s9)) : PMi l yX4_isBound wsX4_isBound { frames := 4, cells := 0, slots := 0, locals := 95 } D cI cS (wMo cI h m1 m2 m3 m4 m5 m6 m7 m8 m9 m10 m11 m12 m13 lf tr an pn gr ax ra rp rg rd so sl ces kd pl wt xk xp xw wo su ask shw) [.ref h, .int t, .int nn] (fX4_isBound an kd pl wo N Nn t) := by
  refine kEnter (cc := cX4_isBound) (maxL := 6) (ret := (some .boolean)) (by decide) rfl (Nat.le_of_ble_eq_true rfl) ?_
  intro p e s m below meth c ls Qf hQ hx hb hml hr hlocks hown hts hK hP hl
  have hown : s.vm.findClass RX4 = some m.cls := hown
  have hl : lv_has ls 6 [(0, .ref h), (1, .int t), (2, .int nn)] := hl
  refine lv_iconst (v := 1) hx hb dX4_isBound_0 (by decide) ?_
  refine lv_aload_n hx hb dX4_isBound_1 rfl (lv_at hl 0 rfl) ?_
  refine va_get (D := D) (ci := 4) (v := .int an) (C := RX4) (T := TX4) (N := 23) hx hb hts (fun _ h => List.mem_cons_of_mem _ (List.mem_append_right _ h)) hown hK.1 hP 0 rfl rfl 5 (by decide) (hts (.fieldLink RX4 59 "LieNightsModel" "answers" "I") (List.mem_of_getElem? (i := 1) rfl)) (fun _ h9 => h9) rfl dX4_isBound_2 ?_
  refine lv_ishl hx hb dX4_isBound_5 ?_
  refine lv_iconst (v := 1) hx hb dX4_isBound_6 (by decide) ?_
  refine lv_isub hx hb dX4_isBound_7 ?_
  refine lv_istore_n (lv' := [(3, .int ((1 <<< (an &&& 31)) - 1)), (0, .ref h), (1, .int t), (2, .int nn)]) hx hb dX4_isBound_8 rfl hl (by decide) rfl (fun ls hl => ?_)
  refine lv_iconst (v := 0) hx hb dX4_isBound_9 (by decide) ?_
  refine lv_istore (lv' := [(4, .int 0), (3, .int ((1 <<< (an &&& 31)) - 1)), (0, .ref h), (1, .int t), (2, .int nn)]) hx hb dX4_isBound_10 hl (by decide) rfl (fun ls hl => ?_)
  have hR1 : (fX4_isBound an kd pl wo N Nn t) = (lqr (lq (fun k a => sX4_isBound_12 kd pl wo N t k a) ((1 <<< (an &&& 31)) - 1) Nn) (fun a => aX4_isBound_12  a)) := rfl
  have loop12 : ∀ (n k12 : Nat), k12 ≤ Nn → Nn + 1 ≤ k12 + n → ∀ (v3_12 : Int32), lq (fun k a => sX4_isBound_12 kd pl wo N t k a) ((1 <<< (an &&& 31)) - 1) k12 = Sum.inl v3_12 → (PP v3_12) → ∀ (ls : Array Slot), lv_has ls 6 [(0, .ref h), (1, .int t), (2, .int nn), (3, .int v3_12), (4, .int (nI k12))] → W p l e { frames := 4, cells := 0, slots := 0, locals := 95 } s m ([.ref h, .int t, .int nn] : List Value).toArray below meth c s.heap [] 0 0 Qf (F0 m 12 ls []) := by
    intro n
    induction n with
    | zero => intro k12 h1 h2; exact absurd h2 (by omega)
    | succ n ih =>
      intro k12 hk12 hn12 v3_12 hacc12 hPP ls hl
      have ih12 := ih
      refine lv_iload hx hb dX4_isBound_12 (lv_at hl 4 rfl) ?_
      refine lv_iload_n hx hb dX4_isBound_14 rfl (lv_at hl 2 rfl) ?_
      refine lv_icmp_ge (tgt := 54) hx hb dX4_isBound_15 (by decide) (fun c15 => ?_) (fun c15 => ?_)
      · skip
        have hkN : k12 = Nn := (kEnd hk12 rfl hn (by omega) c15)
        rw [hkN] at hacc12
        have hR2 : (fX4_isBound an kd pl wo N Nn t) = aX4_isBound_12  v3_12 := hR1.trans (lq_end (x := v3_12) (g := (fun a => aX4_isBound_12  a)) hacc12)
        refine lv_iconst (v := 0) hx hb dX4_isBound_54 (by decide) ?_
        have hR3 : (fX4_isBound an kd pl wo N Nn t) = 0 := hR2.trans rfl
        rw [hQ]
        exact W.zret (v := 0) (ty := .boolean) hx hb hr rfl (fun t ht hW => ⟨_, rfl, hR3.symm, ht⟩) (fun q h => by cases h) dX4_isBound_55
      have hlt12 : k12 < Nn := (kLt hk12 rfl hn c15)
      refine lv_aload_n hx hb dX4_isBound_18 rfl (lv_at hl 0 rfl) ?_
      refine lv_iload_n hx hb dX4_isBound_19 rfl (lv_at hl 3 rfl) ?_
      refine kPi (va_runV (As := [.int v3_12]) (rest := []) ⟨hx, hb, hml, hown, hts⟩ (c_X4_askOf l D cI cS h m1 m2 m3 m4 m5 m6 m7 m8 m9 m10 m11 m12 m13 lf tr an pn gr ax ra rp rg rd so sl ces kd pl wt xk xp xw wo su ask shw N v3_12 ha hN (hP1 _ hPP)) (cwV 1 hts gX4_isBound_X4_askOf rfl rfl rfl q_X4_askOf ⟨Nat.le_of_ble_eq_true rfl, Nat.le_of_ble_eq_true rfl⟩) (kPV hK hP [0, 1, 2, 3, 4, 5, 6, 7, 8, 9, 10, 11, 12, 13] rfl (va_recv hK.1 hP (ci := 4) (q0 := 0) rfl rfl) [.int v3_12]) rfl rfl hl.1 rfl (lv_room (Nat.le_of_ble_eq_true rfl)) dX4_isBound_20 ⟨Nat.zero_le _, Nat.zero_le _⟩) ?_
      refine lv_istore (lv' := [(5, .int (fX4_askOf kd pl wo N v3_12)), (0, .ref h), (1, .int t), (2, .int nn), (3, .int v3_12), (4, .int (nI k12))]) hx hb dX4_isBound_23 hl (by decide) rfl (fun ls hl => ?_)
      refine lv_iload hx hb dX4_isBound_25 (lv_at hl 0 rfl) ?_
      refine lv_iload_n hx hb dX4_isBound_27 rfl (lv_at hl 2 rfl) ?_
      refine lv_icmp_ne (tgt := 33) hx hb dX4_isBound_28 (by decide) (fun c28 => ?_) (fun c28 => ?_)
      · skip
        refine lv_aload_n hx hb dX4_isBound_33 rfl (lv_at hl 1 rfl) ?_
        refine lv_iload hx hb dX4_isBound_34 (lv_at hl 0 rfl) ?_
        refine lv_aload_n hx hb dX4_isBound_36 rfl (lv_at hl 1 rfl) ?_
        refine lv_iload hx hb dX4_isBound_37 (lv_at hl 0 rfl) ?_
        refine lv_iload_n hx hb dX4_isBound_39 rfl (lv_at hl 2 rfl) ?_
        refine kPi (va_runV (As := [.int (fX4_askOf kd pl wo N v3_12), .int t]) (rest := [.int (fX4_askOf kd pl wo N v3_12), .ref h]) ⟨hx, hb, hml, hown, hts⟩ (c_X4_shownBy l D cI cS h m1 m2 m3 m4 m5 m6 m7 m8 m9 m10 m11 m12 m13 lf tr an pn gr ax ra rp rg rd so sl ces kd pl wt xk xp xw wo su ask shw (fX4_askOf kd pl wo N v3_12) t (hP2 _ hPP) hit) (cwV 2 hts gX4_isBound_X4_shownBy rfl rfl rfl q_X4_shownBy ⟨Nat.le_of_ble_eq_true rfl, Nat.le_of_ble_eq_true rfl⟩) (kPV hK hP [0, 1, 2, 3, 4, 5, 6, 7, 8, 9, 10, 11, 12, 13] rfl (va_recv hK.1 hP (ci := 4) (q0 := 0) rfl rfl) [.int (fX4_askOf kd pl wo N v3_12), .int t]) rfl rfl hl.1 rfl (lv_room (Nat.le_of_ble_eq_true rfl)) dX4_isBound_40 ⟨Nat.zero_le _, Nat.zero_le _⟩) ?_
        refine lv_iload_n hx hb dX4_isBound_43 rfl (lv_at hl 4 rfl) ?_
        refine kPi (va_runV (As := [.int (fX4_askOf kd pl wo N v3_12), .int (fX4_shownBy kd pl (fX4_askOf kd pl wo N v3_12) t), .int v3_12]) (rest := []) ⟨hx, hb, hml, hown, hts⟩ (c_X4_group l D cI cS h m1 m2 m3 m4 m5 m6 m7 m8 m9 m10 m11 m12 m13 lf tr an pn gr ax ra rp rg rd so sl ces kd pl wt xk xp xw wo su ask shw N (fX4_askOf kd pl wo N v3_12) (fX4_shownBy kd pl (fX4_askOf kd pl wo N v3_12) t) v3_12 ha hN (hP2 _ hPP)) (cwV 3 hts gX4_isBound_X4_group rfl rfl rfl q_X4_group ⟨Nat.le_of_ble_eq_true rfl, Nat.le_of_ble_eq_true rfl⟩) (kPV hK hP [0, 1, 2, 3, 4, 5, 6, 7, 8, 9, 10, 11, 12, 13] rfl (va_recv hK.1 hP (ci := 4) (q0 := 0) rfl rfl) [.int (fX4_askOf kd pl wo N v3_12), .int (fX4_shownBy kd pl (fX4_askOf kd pl wo N v3_12) t), .int v3_12]) rfl rfl hl.1 rfl (lv_room (Nat.le_of_ble_eq_true rfl)) dX4_isBound_44 ⟨Nat.zero_le _, Nat.zero_le _⟩) ?_
        refine lv_istore_n (lv' := [(3, .int (fX4_group kd pl N (fX4_askOf kd pl wo N v3_12) (fX4_shownBy kd pl (fX4_askOf kd pl wo N v3_12) t) v3_12)), (5, .int (fX4_askOf kd pl wo N v3_12)), (0, .ref h), (1, .int t), (2, .int nn), (4, .int (nI k12))]) hx hb dX4_isBound_47 rfl hl (by decide) rfl (fun ls hl => ?_)
        refine lv_iinc (v := (nI (k12 + 1))) (lv' := [(4, .int (nI (k12 + 1))), (3, .int (fX4_group kd pl N (fX4_askOf kd pl wo N v3_12) (fX4_shownBy kd pl (fX4_askOf kd pl wo N v3_12) t) v3_12)), (5, .int (fX4_askOf kd pl wo N v3_12)), (0, .ref h), (1, .int t), (2, .int nn)]) hx hb dX4_isBound_48 hl (k := 5) rfl (nI_1 (k12)) (by decide) rfl (fun ls hl => ?_)
        refine lv_goto (tgt := 12) hx hb dX4_isBound_51 (by decide) ?_
        have hR4 : sX4_isBound_12 kd pl wo N t k12 v3_12 = (.inl (fX4_group kd pl N (fX4_askOf kd pl wo N v3_12) (fX4_shownBy kd pl (fX4_askOf kd pl wo N v3_12) t) v3_12)) := (by unfold sX4_isBound_12; rw [if_neg c28])
        exact ih12 (k12 + 1) hlt12 (by omega) _ (lq_next hacc12 hR4) (hP3 _ hPP c28) ls (lv_sub hl [3, 4, 5, 1, 0] rfl)
      refine lv_iconst (v := 1) hx hb dX4_isBound_31 (by decide) ?_
      have hR5 : sX4_isBound_12 kd pl wo N t k12 v3_12 = (.inr 1) := (by unfold sX4_isBound_12; rw [if_pos c28])
      have hR6 : (fX4_isBound an kd pl wo N Nn t) = 1 := hR1.trans (lq_exit hacc12 hR5 hlt12)
      rw [hQ]
      exact W.zret (v := 1) (ty := .boolean) hx hb hr rfl (fun t ht hW => ⟨_, rfl, hR6.symm, ht⟩) (fun q h => by cases h) dX4_isBound_32
  exact loop12 (Nn + 1) 0 (Nat.zero_le _) (by omega) _ rfl hP0 ls (lv_sub hl [2, 3, 4, 1, 0] rfl)

def aX4_inLeastTerms_6 (Uu Dd : Nat) (wh : Int32) (X_6 Y_6 : Nat) : Int64 := (if wh = 0 then (lN (Uu / X_6)) else (lN (Dd / X_6)))
def sX4_inLeastTerms_6 (Uu Dd : Nat) (wh : Int32) (k6 X_6 Y_6 : Nat) : (Nat × Nat) ⊕ Int64 := (if (lg_cmp (lN Y_6) 0) = 0 then (.inr (aX4_inLeastTerms_6 Uu Dd wh X_6 Y_6)) else (.inl (Y_6, (X_6 % Y_6))))
def fX4_inLeastTerms (Uu Dd : Nat) (wh : Int32) : Int64 := (lqr (lq (fun k a => sX4_inLeastTerms_6 Uu Dd wh k a.1 a.2) (Uu, Dd) (Dd + 1)) (fun a => aX4_inLeastTerms_6 Uu Dd wh a.1 a.2))
theorem q_X4_inLeastTerms : yX4_inLeastTerms.cls = RX4 ∧ yX4_inLeastTerms.cls ≠ "java/lang/invoke/MethodHandle" ∧ yX4_inLeastTerms.cls ≠ "java/lang/invoke/VarHandle" ∧ (parseMethodDescriptor yX4_inLeastTerms.desc).map (fun d => d.parameters.length) = some 3 := by decide +kernel
set_option maxHeartbeats 4000000 in
set_option maxRecDepth 100000 in
theorem c_X4_inLeastTerms (l : Launch) (D : va_G) (cI cS : ClassId) (Uu Dd : Nat) (wh : Int32) (hU : Uu < 2 ^ 31) (hD : Dd < 2 ^ 31) (hD0 : 0 < Dd) : PMl l yX4_inLeastTerms wsX4_inLeastTerms { frames := 0, cells := 0, slots := 0, locals := 0 } D cI cS [] [.long (lN Uu), .long (lN Dd), .int wh] (fX4_inLeastTerms Uu Dd wh) := by
  refine kEnter (cc := cX4_inLeastTerms) (maxL := 11) (ret := (some .long)) (by decide) rfl (Nat.le_of_ble_eq_true rfl) ?_
  intro p e s m below meth c ls Qf hQ hx hb hml hr hlocks hown hts hK hP hl
  have hown : s.vm.findClass RX4 = some m.cls := hown
  have hl : lv_has ls 11 [(0, .long (lN Uu)), (2, .long (lN Dd)), (4, .int wh)] := hl
  refine lv_lload_n hx hb dX4_inLeastTerms_0 rfl (lv_at hl 0 rfl) ?_
  refine lv_lstore (lv' := [(5, .long (lN Uu)), (0, .long (lN Uu)), (2, .long (lN Dd)), (4, .int wh)]) hx hb dX4_inLeastTerms_1 hl (by decide) rfl (fun ls hl => ?_)
  refine lv_lload_n hx hb dX4_inLeastTerms_3 rfl (lv_at hl 2 rfl) ?_
  refine lv_lstore (lv' := [(7, .long (lN Dd)), (5, .long (lN Uu)), (0, .long (lN Uu)), (2, .long (lN Dd)), (4, .int wh)]) hx hb dX4_inLeastTerms_4 hl (by decide) rfl (fun ls hl => ?_)
  have hR1 : (fX4_inLeastTerms Uu Dd wh) = (lqr (lq (fun k a => sX4_inLeastTerms_6 Uu Dd wh k a.1 a.2) (Uu, Dd) (Dd + 1)) (fun a => aX4_inLeastTerms_6 Uu Dd wh a.1 a.2)) := rfl
  have aft6 : ∀ (X_6 : Nat) (Y_6 : Nat), (fX4_inLeastTerms Uu Dd wh) = aX4_inLeastTerms_6 Uu Dd wh X_6 Y_6 → 0 < X_6 ∧ X_6 < 2 ^ 31 → ∀ (ls : Array Slot), lv_has ls 11 [(0, .long (lN Uu)), (2, .long (lN Dd)), (4, .int wh), (5, .long (lN X_6)), (7, .long (lN Y_6))] → W p l e { frames := 0, cells := 0, slots := 0, locals := 0 } s m ([.long (lN Uu), .long (lN Dd), .int wh] : List Value).toArray below meth c s.heap [] 0 0 Qf (F0 m 31 ls []) := by
    intro X_6 Y_6 hRa6 hXa ls hl
    refine lv_iload hx hb dX4_inLeastTerms_31 (lv_at hl 2 rfl) ?_
    refine lv_if_ne (tgt := 43) hx hb dX4_inLeastTerms_33 (by decide) (fun c33 => ?_) (fun c33 => ?_)
    · skip
      refine lv_lload_n hx hb dX4_inLeastTerms_43 rfl (lv_at hl 1 rfl) ?_
      refine lv_lload hx hb dX4_inLeastTerms_44 (lv_at hl 3 rfl) ?_
      refine lv_ldiv hx hb dX4_inLeastTerms_46 (mLn hXa.1 hXa.2) ?_
      rw [show ((lN Dd) / (lN X_6)) = (lN (Dd / X_6)) from (pk_lDiv (by omega) hXa.1 (by omega))]
      have hR2 : (fX4_inLeastTerms Uu Dd wh) = (lN (Dd / X_6)) := hRa6.trans (by unfold aX4_inLeastTerms_6; rw [if_neg c33])
      rw [hQ]
      exact W.lret (v := (lN (Dd / X_6))) hx hb hr (fun t ht hW => ⟨_, rfl, hR2.symm, ht⟩) (fun q h => by cases h) dX4_inLeastTerms_47
    refine lv_lload_n hx hb dX4_inLeastTerms_36 rfl (lv_at hl 0 rfl) ?_
    refine lv_lload hx hb dX4_inLeastTerms_37 (lv_at hl 3 rfl) ?_
    refine lv_ldiv hx hb dX4_inLeastTerms_39 (mLn hXa.1 hXa.2) ?_
    rw [show ((lN Uu) / (lN X_6)) = (lN (Uu / X_6)) from (pk_lDiv (by omega) hXa.1 (by omega))]
    refine lv_goto (tgt := 47) hx hb dX4_inLeastTerms_40 (by decide) ?_
    have hR3 : (fX4_inLeastTerms Uu Dd wh) = (lN (Uu / X_6)) := hRa6.trans (by unfold aX4_inLeastTerms_6; rw [if_pos c33])
    rw [hQ]
    exact W.lret (v := (lN (Uu / X_6))) hx hb hr (fun t ht hW => ⟨_, rfl, hR3.symm, ht⟩) (fun q h => by cases h) dX4_inLeastTerms_47
  have loop6 : ∀ (n k6 : Nat), k6 ≤ (Dd + 1) → (Dd + 1) + 1 ≤ k6 + n → ∀ (X_6 : Nat) (Y_6 : Nat), lq (fun k a => sX4_inLeastTerms_6 Uu Dd wh k a.1 a.2) (Uu, Dd) k6 = Sum.inl (X_6, Y_6) → (X_6 < 2 ^ 31) → (Y_6 < 2 ^ 31 ∧ Y_6 + k6 ≤ Dd) → (0 < X_6 + Y_6) → ∀ (ls : Array Slot), lv_has ls 11 [(0, .long (lN Uu)), (2, .long (lN Dd)), (4, .int wh), (5, .long (lN X_6)), (7, .long (lN Y_6))] → W p l e { frames := 0, cells := 0, slots := 0, locals := 0 } s m ([.long (lN Uu), .long (lN Dd), .int wh] : List Value).toArray below meth c s.heap [] 0 0 Qf (F0 m 6 ls []) := by
    intro n
    induction n with
    | zero => intro k6 h1 h2; exact absurd h2 (by omega)
    | succ n ih =>
      intro k6 hk6 hn6 X_6 Y_6 hacc6 hX hY hXY ls hl
      have ih6 := ih
      refine lv_lload hx hb dX4_inLeastTerms_6 (lv_at hl 4 rfl) ?_
      refine lv_lconst (v := 0) hx hb dX4_inLeastTerms_8 rfl ?_
      have hlt6 : k6 < Dd + 1 := by omega
      refine W.lcmp hx hb dX4_inLeastTerms_9 ?_
      refine lv_if_eq (tgt := 31) hx hb dX4_inLeastTerms_10 (by decide) (fun c10 => ?_) (fun c10 => ?_)
      · skip
        have hR4 : sX4_inLeastTerms_6 Uu Dd wh k6 X_6 Y_6 = (.inr (aX4_inLeastTerms_6 Uu Dd wh X_6 Y_6)) := (by unfold sX4_inLeastTerms_6; rw [if_pos c10])
        have hR5 : (fX4_inLeastTerms Uu Dd wh) = aX4_inLeastTerms_6 Uu Dd wh X_6 Y_6 := hR1.trans (lq_exit hacc6 hR4 hlt6)
        exact aft6 _ _ hR5 (mLx hY.1 hXY hX c10) ls (lv_sub hl [0, 1, 2, 3, 4] rfl)
      have hY0 := mLc hY.1 c10
      refine lv_lload hx hb dX4_inLeastTerms_13 (lv_at hl 3 rfl) ?_
      refine lv_lload hx hb dX4_inLeastTerms_15 (lv_at hl 4 rfl) ?_
      refine lv_lrem hx hb dX4_inLeastTerms_17 (mLn hY0 hY.1) ?_
      rw [show ((lN X_6) - (lN X_6) / (lN Y_6) * (lN Y_6)) = (lN (X_6 % Y_6)) from (pk_lRem (by omega) hY0 (by omega))]
      refine lv_lstore (lv' := [(9, .long (lN (X_6 % Y_6))), (0, .long (lN Uu)), (2, .long (lN Dd)), (4, .int wh), (5, .long (lN X_6)), (7, .long (lN Y_6))]) hx hb dX4_inLeastTerms_18 hl (by decide) rfl (fun ls hl => ?_)
      refine lv_lload hx hb dX4_inLeastTerms_20 (lv_at hl 5 rfl) ?_
      refine lv_lstore (lv' := [(5, .long (lN Y_6)), (9, .long (lN (X_6 % Y_6))), (0, .long (lN Uu)), (2, .long (lN Dd)), (4, .int wh), (7, .long (lN Y_6))]) hx hb dX4_inLeastTerms_22 hl (by decide) rfl (fun ls hl => ?_)
      refine lv_lload hx hb dX4_inLeastTerms_24 (lv_at hl 1 rfl) ?_
      refine lv_lstore (lv' := [(7, .long (lN (X_6 % Y_6))), (5, .long (lN Y_6)), (9, .long (lN (X_6 % Y_6))), (0, .long (lN Uu)), (2, .long (lN Dd)), (4, .int wh)]) hx hb dX4_inLeastTerms_26 hl (by decide) rfl (fun ls hl => ?_)
      refine lv_goto (tgt := 6) hx hb dX4_inLeastTerms_28 (by decide) ?_
      have hR6 : sX4_inLeastTerms_6 Uu Dd wh k6 X_6 Y_6 = (.inl (Y_6, (X_6 % Y_6))) := (by unfold sX4_inLeastTerms_6; rw [if_neg c10])
      exact ih6 (k6 + 1) hlt6 (by omega) _ _ (lq_next hacc6 hR6) (by omega) (by have h9 := Nat.mod_lt X_6 hY0; omega) (by omega) ls (lv_sub hl [3, 4, 5, 1, 0] rfl)
  exact loop6 ((Dd + 1) + 1) 0 (Nat.zero_le _) (by omega) _ _ rfl hU ⟨hD, Nat.le_refl _⟩ (by omega) ls (lv_sub hl [2, 3, 4, 1, 0] rfl)
