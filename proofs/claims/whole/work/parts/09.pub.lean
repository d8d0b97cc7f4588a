def fX3_ofAnswer (an : Int32) (kd pl : Nat → Int32) (x wh : Int32) : Int32 := (if (fX3_isAnswer an x) = 0 then (-1) else (if (fX3_within wh 1) = 0 then (-2) else (if wh = 0 then (fX1_kindOf kd x) else (fX1_placeOf pl x))))
theorem q_X3_ofAnswer : yX3_ofAnswer.cls = RX3 ∧ yX3_ofAnswer.cls ≠ "java/lang/invoke/MethodHandle" ∧ yX3_ofAnswer.cls ≠ "java/lang/invoke/VarHandle" ∧ (parseMethodDescriptor yX3_ofAnswer.desc).map (fun d => d.parameters.length) = some 2 := by decide +kernel
set_option maxHeartbeats 4000000 in
set_option maxRecDepth 100000 in
theorem c_X3_ofAnswer (l : Launch) (D : va_G) (cI cS : ClassId) (h sa p0 aa ab q0 q1 q2 q3 b0 b1 b2 b3 p1 p2 p3 p4 : Nat) (sf : Nat → Option Nat) (old rd tr lf : Int32) (ask shw : Nat → Int32) (an pn gr : Int32) (kd pl wt : Nat → Int32) (ban bpn bgr : Int32) (bkd bpl bwt al wo fi ni : Nat → Int32) (pa x wh : Int32)  : PMi l yX3_ofAnswer wsX3_ofAnswer { frames := 2, cells := 0, slots := 0, locals := 42 } D cI cS (wL17 cI cS h sa p0 aa ab q0 b0 q0 q1 q2 q3 b0 b1 b2 b3 p1 p2 p3 p4 sf old rd tr lf ask shw an pn gr kd pl wt ban bpn bgr bkd bpl bwt al wo fi ni pa) [.ref h, .int x, .int wh] (fX3_ofAnswer an kd pl x wh) := by
  refine kEnter (cc := cX3_ofAnswer) (maxL := 3) (ret := (some .int)) (by decide) rfl (Nat.le_of_ble_eq_true rfl) ?_
  intro p e s m below meth c ls Qf hQ hx hb hml hr hlocks hown hts hK hP hl
  have hown : s.vm.findClass RX3 = some m.cls := hown
  have hl : lv_has ls 3 [(0, .ref h), (1, .int x), (2, .int wh)] := hl
  refine lv_aload_n hx hb dX3_ofAnswer_0 rfl (lv_at hl 0 rfl) ?_
  refine lv_iload_n hx hb dX3_ofAnswer_1 rfl (lv_at hl 1 rfl) ?_
  refine kPi (va_runV (As := [.int x]) (rest := []) ⟨hx, hb, hml, hown, hts⟩ (c_X3_isAnswer l D cI cS h sa p0 aa ab q0 b0 q1 q2 q3 old rd tr lf an pn gr kd pl wt x) (cwV 1 hts gX3_ofAnswer_X3_isAnswer rfl rfl rfl q_X3_isAnswer ⟨Nat.le_of_ble_eq_true rfl, Nat.le_of_ble_eq_true rfl⟩) (kPV hK hP [0, 4, 5, 6, 7] rfl (va_recv hK.1 hP (ci := 3) (q0 := 0) rfl rfl) [.int x]) rfl rfl hl.1 rfl (lv_room (Nat.le_of_ble_eq_true rfl)) dX3_ofAnswer_2 ⟨Nat.zero_le _, Nat.zero_le _⟩) ?_
  refine lv_if_ne (tgt := 10) hx hb dX3_ofAnswer_5 (by decide) (fun c5 => ?_) (fun c5 => ?_)
  · skip
    refine lv_iload_n hx hb dX3_ofAnswer_10 rfl (lv_at hl 2 rfl) ?_
    refine lv_iconst (v := 1) hx hb dX3_ofAnswer_11 (by decide) ?_
    refine kPi (va_runS (As := [.int wh, .int 1]) (rest := []) ⟨hx, hb, hml, hown, hts⟩ (c_X3_within l D cI cS wh 1) (va_cwS 2 hts gX3_ofAnswer_X3_within rfl rfl rfl q_X3_within.2 ⟨Nat.le_of_ble_eq_true rfl, Nat.le_of_ble_eq_true rfl⟩) (kPS hK hP [] rfl [.int wh, .int 1]) rfl rfl hl.1 rfl (lv_room (Nat.le_of_ble_eq_true rfl)) dX3_ofAnswer_12 ⟨Nat.zero_le _, Nat.zero_le _⟩) ?_
    refine lv_if_ne (tgt := 21) hx hb dX3_ofAnswer_15 (by decide) (fun c15 => ?_) (fun c15 => ?_)
    · skip
      refine lv_iload_n hx hb dX3_ofAnswer_21 rfl (lv_at hl 2 rfl) ?_
      refine lv_if_ne (tgt := 36) hx hb dX3_ofAnswer_22 (by decide) (fun c22 => ?_) (fun c22 => ?_)
      · skip
        refine lv_aload_n hx hb dX3_ofAnswer_36 rfl (lv_at hl 0 rfl) ?_
        refine va_get (D := D) (ci := 3) (v := .ref q0) (C := RX3) (T := TX3) (N := 10) hx hb hts (fun _ h => List.mem_cons_of_mem _ (List.mem_append_left _ (List.mem_append_right _ h))) hown hK.1 hP 0 rfl rfl 4 (by decide) (hts (.fieldLink RX3 34 "LieNights" "secret" "LLieNights$Secret;") (List.mem_of_getElem? (i := 1) rfl)) (fun _ h9 => h9) rfl dX3_ofAnswer_37 ?_
        refine lv_iload_n hx hb dX3_ofAnswer_40 rfl (lv_at hl 1 rfl) ?_
        refine kPi (va_runV (As := [.int x]) (rest := []) ⟨hx, hb, hml, hown, hts⟩ (c_X1_placeOf l D cI cS q0 q1 q2 q3 an pn gr kd pl wt x) (cwV 1 hts gX3_ofAnswer_X1_placeOf rfl rfl rfl q_X1_placeOf ⟨Nat.le_of_ble_eq_true rfl, Nat.le_of_ble_eq_true rfl⟩) (kPV hK hP [4, 5, 6, 7] rfl (va_recv hK.1 hP (ci := 1) (q0 := 4) rfl rfl) [.int x]) rfl rfl hl.1 rfl (lv_room (Nat.le_of_ble_eq_true rfl)) dX3_ofAnswer_41 ⟨Nat.zero_le _, Nat.zero_le _⟩) ?_
        have hR1 : (fX3_ofAnswer an kd pl x wh) = (fX1_placeOf pl x) := (by unfold fX3_ofAnswer; rw [if_neg c5, if_neg c15, if_neg c22])
        rw [hQ]
        exact W.iret (v := (fX1_placeOf pl x)) hx hb hr (fun t ht hW => ⟨_, rfl, hR1.symm, ht⟩) (fun q h => by cases h) dX3_ofAnswer_44
      refine lv_aload_n hx hb dX3_ofAnswer_25 rfl (lv_at hl 0 rfl) ?_
      refine va_get (D := D) (ci := 3) (v := .ref q0) (C := RX3) (T := TX3) (N := 10) hx hb hts (fun _ h => List.mem_cons_of_mem _ (List.mem_append_left _ (List.mem_append_right _ h))) hown hK.1 hP 0 rfl rfl 4 (by decide) (hts (.fieldLink RX3 34 "LieNights" "secret" "LLieNights$Secret;") (List.mem_of_getElem? (i := 1) rfl)) (fun _ h9 => h9) rfl dX3_ofAnswer_26 ?_
      refine lv_iload_n hx hb dX3_ofAnswer_29 rfl (lv_at hl 1 rfl) ?_
      refine kPi (va_runV (As := [.int x]) (rest := []) ⟨hx, hb, hml, hown, hts⟩ (c_X1_kindOf l D cI cS q0 q1 q2 q3 an pn gr kd pl wt x) (cwV 1 hts gX3_ofAnswer_X1_kindOf rfl rfl rfl q_X1_kindOf ⟨Nat.le_of_ble_eq_true rfl, Nat.le_of_ble_eq_true rfl⟩) (kPV hK hP [4, 5, 6, 7] rfl (va_recv hK.1 hP (ci := 1) (q0 := 4) rfl rfl) [.int x]) rfl rfl hl.1 rfl (lv_room (Nat.le_of_ble_eq_true rfl)) dX3_ofAnswer_30 ⟨Nat.zero_le _, Nat.zero_le _⟩) ?_
      refine lv_goto (tgt := 44) hx hb dX3_ofAnswer_33 (by decide) ?_
      have hR2 : (fX3_ofAnswer an kd pl x wh) = (fX1_kindOf kd x) := (by unfold fX3_ofAnswer; rw [if_neg c5, if_neg c15, if_pos c22])
      rw [hQ]
      exact W.iret (v := (fX1_kindOf kd x)) hx hb hr (fun t ht hW => ⟨_, rfl, hR2.symm, ht⟩) (fun q h => by cases h) dX3_ofAnswer_44
    refine lv_bipush (v := (-2)) hx hb dX3_ofAnswer_18 (by decide) ?_
    have hR3 : (fX3_ofAnswer an kd pl x wh) = (-2) := (by unfold fX3_ofAnswer; rw [if_neg c5, if_pos c15])
    rw [hQ]
    exact W.iret (v := (-2)) hx hb hr (fun t ht hW => ⟨_, rfl, hR3.symm, ht⟩) (fun q h => by cases h) dX3_ofAnswer_20
  refine lv_iconst (v := (-1)) hx hb dX3_ofAnswer_8 (by decide) ?_
  have hR4 : (fX3_ofAnswer an kd pl x wh) = (-1) := (by unfold fX3_ofAnswer; rw [if_pos c5])
  rw [hQ]
  exact W.iret (v := (-1)) hx hb hr (fun t ht hW => ⟨_, rfl, hR4.symm, ht⟩) (fun q h => by cases h) dX3_ofAnswer_9

def fX3_move (old an : Int32) (pl : Nat → Int32) (x v : Int32) : Int32 × (Nat → Int32) × Int32 := (if (fX3_isAnswer an x) = 0 then ((-1), pl, old) else (if (fX3_within v 9) = 0 then ((-2), pl, old) else ((fX1_placeOf pl x), (fX1_setPlace pl x v), 1)))
theorem q_X3_move : yX3_move.cls = RX3 ∧ yX3_move.cls ≠ "java/lang/invoke/MethodHandle" ∧ yX3_move.cls ≠ "java/lang/invoke/VarHandle" ∧ (parseMethodDescriptor yX3_move.desc).map (fun d => d.parameters.length) = some 2 := by decide +kernel
set_option maxHeartbeats 4000000 in
set_option maxRecDepth 100000 in
theorem c_X3_move (l : Launch) (D : va_G) (cI cS : ClassId) (h sa p0 aa ab q0 q1 q2 q3 b0 b1 b2 b3 p1 p2 p3 p4 : Nat) (sf : Nat → Option Nat) (old rd tr lf : Int32) (ask shw : Nat → Int32) (an pn gr : Int32) (kd pl wt : Nat → Int32) (ban bpn bgr : Int32) (bkd bpl bwt al wo fi ni : Nat → Int32) (pa x v : Int32)  : MMi l yX3_move wsX3_move { frames := 2, cells := 0, slots := 0, locals := 44 } D cI cS (wL17 cI cS h sa p0 aa ab q0 b0 q0 q1 q2 q3 b0 b1 b2 b3 p1 p2 p3 p4 sf old rd tr lf ask shw an pn gr kd pl wt ban bpn bgr bkd bpl bwt al wo fi ni pa) [.ref h, .int x, .int v] ((fX3_move old an pl x v).1) (wL17 cI cS h sa p0 aa ab q0 b0 q0 q1 q2 q3 b0 b1 b2 b3 p1 p2 p3 p4 sf ((fX3_move old an pl x v).2.2) rd tr lf ask shw an pn gr kd ((fX3_move old an pl x v).2.1) wt ban bpn bgr bkd bpl bwt al wo fi ni pa) := by
  refine kEnterM (cc := cX3_move) (maxL := 4) (ret := (some .int)) (by decide) rfl (Nat.le_of_ble_eq_true rfl) ?_
  intro p e s m below meth c ls Qf hQ hx hb hml hr hlocks hown hts hK hP hD hS hl
  have hown : s.vm.findClass RX3 = some m.cls := hown
  have hl : lv_has ls 4 [(0, .ref h), (1, .int x), (2, .int v)] := hl
  generalize kA (wL17 cI cS h sa p0 aa ab q0 b0 q0 q1 q2 q3 b0 b1 b2 b3 p1 p2 p3 p4 sf old rd tr lf ask shw an pn gr kd pl wt ban bpn bgr bkd bpl bwt al wo fi ni pa) = A at hQ hD hS
  refine lv_aload_n hx hb dX3_move_0 rfl (lv_at hl 0 rfl) ?_
  refine lv_iload_n hx hb dX3_move_1 rfl (lv_at hl 1 rfl) ?_
  refine kPi (va_runV (As := [.int x]) (rest := []) ⟨hx, hb, hml, hown, hts⟩ (c_X3_isAnswer l D cI cS h sa p0 aa ab q0 b0 q1 q2 q3 old rd tr lf an pn gr kd pl wt x) (cwV 1 hts gX3_move_X3_isAnswer rfl rfl rfl q_X3_isAnswer ⟨Nat.le_of_ble_eq_true rfl, Nat.le_of_ble_eq_true rfl⟩) (kPV hK hP [0, 4, 5, 6, 7] rfl (va_recv hK.1 hP (ci := 3) (q0 := 0) rfl rfl) [.int x]) rfl rfl hl.1 rfl (lv_room (Nat.le_of_ble_eq_true rfl)) dX3_move_2 ⟨Nat.zero_le _, Nat.zero_le _⟩) ?_
  refine lv_if_ne (tgt := 10) hx hb dX3_move_5 (by decide) (fun c5 => ?_) (fun c5 => ?_)
  · skip
    refine lv_iload_n hx hb dX3_move_10 rfl (lv_at hl 2 rfl) ?_
    refine lv_bipush (v := 9) hx hb dX3_move_11 (by decide) ?_
    refine kPi (va_runS (As := [.int v, .int 9]) (rest := []) ⟨hx, hb, hml, hown, hts⟩ (c_X3_within l D cI cS v 9) (va_cwS 2 hts gX3_move_X3_within rfl rfl rfl q_X3_within.2 ⟨Nat.le_of_ble_eq_true rfl, Nat.le_of_ble_eq_true rfl⟩) (kPS hK hP [] rfl [.int v, .int 9]) rfl rfl hl.1 rfl (lv_room (Nat.le_of_ble_eq_true rfl)) dX3_move_13 ⟨Nat.zero_le _, Nat.zero_le _⟩) ?_
    refine lv_if_ne (tgt := 22) hx hb dX3_move_16 (by decide) (fun c16 => ?_) (fun c16 => ?_)
    · skip
      refine lv_aload_n hx hb dX3_move_22 rfl (lv_at hl 0 rfl) ?_
      refine va_get (D := D) (ci := 3) (v := .ref q0) (C := RX3) (T := TX3) (N := 10) hx hb hts (fun _ h => List.mem_cons_of_mem _ (List.mem_append_left _ (List.mem_append_right _ h))) hown hK.1 hP 0 rfl rfl 4 (by decide) (hts (.fieldLink RX3 34 "LieNights" "secret" "LLieNights$Secret;") (List.mem_of_getElem? (i := 1) rfl)) (fun _ h9 => h9) rfl dX3_move_23 ?_
      refine lv_iload_n hx hb dX3_move_26 rfl (lv_at hl 1 rfl) ?_
      refine kPi (va_runV (As := [.int x]) (rest := []) ⟨hx, hb, hml, hown, hts⟩ (c_X1_placeOf l D cI cS q0 q1 q2 q3 an pn gr kd pl wt x) (cwV 1 hts gX3_move_X1_placeOf rfl rfl rfl q_X1_placeOf ⟨Nat.le_of_ble_eq_true rfl, Nat.le_of_ble_eq_true rfl⟩) (kPV hK hP [4, 5, 6, 7] rfl (va_recv hK.1 hP (ci := 1) (q0 := 4) rfl rfl) [.int x]) rfl rfl hl.1 rfl (lv_room (Nat.le_of_ble_eq_true rfl)) dX3_move_27 ⟨Nat.zero_le _, Nat.zero_le _⟩) ?_
      refine lv_istore_n (lv' := [(3, .int (fX1_placeOf pl x)), (0, .ref h), (1, .int x), (2, .int v)]) hx hb dX3_move_30 rfl hl (by decide) rfl (fun ls hl => ?_)
      refine lv_aload_n hx hb dX3_move_31 rfl (lv_at hl 1 rfl) ?_
      refine va_get (D := D) (ci := 3) (v := .ref q0) (C := RX3) (T := TX3) (N := 10) hx hb hts (fun _ h => List.mem_cons_of_mem _ (List.mem_append_left _ (List.mem_append_right _ h))) hown hK.1 hP 0 rfl rfl 4 (by decide) (hts (.fieldLink RX3 34 "LieNights" "secret" "LLieNights$Secret;") (List.mem_of_getElem? (i := 1) rfl)) (fun _ h9 => h9) rfl dX3_move_32 ?_
      refine lv_iload_n hx hb dX3_move_35 rfl (lv_at hl 2 rfl) ?_
      refine lv_iload_n hx hb dX3_move_36 rfl (lv_at hl 3 rfl) ?_
      refine kMv (wl' := (wL17 cI cS h sa p0 aa ab q0 b0 q0 q1 q2 q3 b0 b1 b2 b3 p1 p2 p3 p4 sf old rd tr lf ask shw an pn gr kd (fX1_setPlace pl x v) wt ban bpn bgr bkd bpl bwt al wo fi ni pa)) (wc := (wSec cI q0 q1 q2 q3 an pn gr kd pl wt)) (w1 := (wSec cI q0 q1 q2 q3 an pn gr kd (fX1_setPlace pl x v) wt)) hP hD hS [4, 5, 6, 7] rfl rfl rfl (va_runV (As := [.int x, .int v]) (rest := []) ⟨hx, hb, hml, hown, hts⟩ (c_X1_setPlace l D cI cS q0 q1 q2 q3 an pn gr kd pl wt x v) (cwV 2 hts gX3_move_X1_setPlace rfl rfl rfl q_X1_setPlace ⟨Nat.le_of_ble_eq_true rfl, Nat.le_of_ble_eq_true rfl⟩) (kMV hK hP hD [4, 5, 6, 7] rfl rfl (va_recv hK.1 hP (ci := 1) (q0 := 4) rfl rfl) [.int x, .int v]) rfl rfl hl.1 rfl (lv_room (Nat.le_of_ble_eq_true rfl)) dX3_move_37 ⟨Nat.zero_le _, Nat.zero_le _⟩) (fun H locs hP hD hS => ?_)
      refine lv_aload_n hx hb dX3_move_40 rfl (lv_at hl 1 rfl) ?_
      refine lv_iconst (v := 1) hx hb dX3_move_41 (by decide) ?_
      refine va_put (D := D) (ci := 3) (v := .int 1) (ty := tyX3 6) (C := RX3) (T := TX3) (N := 10) hx hb hts (fun _ h => List.mem_cons_of_mem _ (List.mem_append_left _ (List.mem_append_right _ h))) tyX3 tyX3_ok nmX3 hown hK.1 hP hD hS 0 rfl rfl 6 (by decide) (hts (.fieldLink RX3 41 "LieNights" "planIsOld" "Z") (List.mem_of_getElem? (i := 2) rfl)) (fun _ h9 => h9) rfl (tyX3_ok 6 (by decide)) rfl rfl (Nat.le_of_ble_eq_true rfl) dX3_move_42 (fun H locs hP hD hS => ?_)
      have hP : va_P D vwCl (wL17 cI cS h sa p0 aa ab q0 b0 q0 q1 q2 q3 b0 b1 b2 b3 p1 p2 p3 p4 sf 1 rd tr lf ask shw an pn gr kd (fX1_setPlace pl x v) wt ban bpn bgr bkd bpl bwt al wo fi ni pa) H := hP
      have hD : va_D A (wL17 cI cS h sa p0 aa ab q0 b0 q0 q1 q2 q3 b0 b1 b2 b3 p1 p2 p3 p4 sf 1 rd tr lf ask shw an pn gr kd (fX1_setPlace pl x v) wt ban bpn bgr bkd bpl bwt al wo fi ni pa) := hD
      refine lv_iload_n hx hb dX3_move_45 rfl (lv_at hl 0 rfl) ?_
      have hR1 : (fX3_move old an pl x v) = ((fX1_placeOf pl x), (fX1_setPlace pl x v), 1) := (by unfold fX3_move; rw [if_neg c5, if_neg c16])
      rw [hQ]
      exact W.iret (v := (fX1_placeOf pl x)) hx hb hr (fun t ht hW => ⟨⟨_, (), rfl, (by show _ = _; rw [hR1]), (by show va_P D vwCl _ t.heap; rw [hR1, ht]; exact hP)⟩, hS.F ht⟩) hS.2.2 dX3_move_46
    refine lv_bipush (v := (-2)) hx hb dX3_move_19 (by decide) ?_
    have hR2 : (fX3_move old an pl x v) = ((-2), pl, old) := (by unfold fX3_move; rw [if_neg c5, if_pos c16])
    rw [hQ]
    exact W.iret (v := (-2)) hx hb hr (fun t ht hW => ⟨⟨_, (), rfl, (by show _ = _; rw [hR2]), (by show va_P D vwCl _ t.heap; rw [hR2, ht]; exact hP)⟩, hS.F ht⟩) hS.2.2 dX3_move_21
  refine lv_iconst (v := (-1)) hx hb dX3_move_8 (by decide) ?_
  have hR3 : (fX3_move old an pl x v) = ((-1), pl, old) := (by unfold fX3_move; rw [if_pos c5])
  rw [hQ]
  exact W.iret (v := (-1)) hx hb hr (fun t ht hW => ⟨⟨_, (), rfl, (by show _ = _; rw [hR3]), (by show va_P D vwCl _ t.heap; rw [hR3, ht]; exact hP)⟩, hS.F ht⟩) hS.2.2 dX3_move_9

def fX3_grow (an gr v : Int32) : Int32 × Int32 := (if (fX3_within v 9) = 0 then ((-2), gr) else (if (fX3_noSecret an) = 0 then ((fX1_growth gr), (fX1_setGrowth v)) else ((-3), gr)))
theorem q_X3_grow : yX3_grow.cls = RX3 ∧ yX3_grow.cls ≠ "java/lang/invoke/MethodHandle" ∧ yX3_grow.cls ≠ "java/lang/invoke/VarHandle" ∧ (parseMethodDescriptor yX3_grow.desc).map (fun d => d.parameters.length) = some 1 := by decide +kernel
set_option maxHeartbeats 4000000 in
set_option maxRecDepth 100000 in
theorem c_X3_grow (l : Launch) (D : va_G) (cI cS : ClassId) (h sa p0 aa ab q0 q1 q2 q3 b0 b1 b2 b3 p1 p2 p3 p4 : Nat) (sf : Nat → Option Nat) (old rd tr lf : Int32) (ask shw : Nat → Int32) (an pn gr : Int32) (kd pl wt : Nat → Int32) (ban bpn bgr : Int32) (bkd bpl bwt al wo fi ni : Nat → Int32) (pa v : Int32)  : MMi l yX3_grow wsX3_grow { frames := 2, cells := 0, slots := 0, locals := 40 } D cI cS (wL17 cI cS h sa p0 aa ab q0 b0 q0 q1 q2 q3 b0 b1 b2 b3 p1 p2 p3 p4 sf old rd tr lf ask shw an pn gr kd pl wt ban bpn bgr bkd bpl bwt al wo fi ni pa) [.ref h, .int v] ((fX3_grow an gr v).1) (wL17 cI cS h sa p0 aa ab q0 b0 q0 q1 q2 q3 b0 b1 b2 b3 p1 p2 p3 p4 sf old rd tr lf ask shw an pn ((fX3_grow an gr v).2) kd pl wt ban bpn bgr bkd bpl bwt al wo fi ni pa) := by
  refine kEnterM (cc := cX3_grow) (maxL := 3) (ret := (some .int)) (by decide) rfl (Nat.le_of_ble_eq_true rfl) ?_
  intro p e s m below meth c ls Qf hQ hx hb hml hr hlocks hown hts hK hP hD hS hl
  have hown : s.vm.findClass RX3 = some m.cls := hown
  have hl : lv_has ls 3 [(0, .ref h), (1, .int v)] := hl
  generalize kA (wL17 cI cS h sa p0 aa ab q0 b0 q0 q1 q2 q3 b0 b1 b2 b3 p1 p2 p3 p4 sf old rd tr lf ask shw an pn gr kd pl wt ban bpn bgr bkd bpl bwt al wo fi ni pa) = A at hQ hD hS
  refine lv_iload_n hx hb dX3_grow_0 rfl (lv_at hl 1 rfl) ?_
  refine lv_bipush (v := 9) hx hb dX3_grow_1 (by decide) ?_
  refine kPi (va_runS (As := [.int v, .int 9]) (rest := []) ⟨hx, hb, hml, hown, hts⟩ (c_X3_within l D cI cS v 9) (va_cwS 2 hts gX3_grow_X3_within rfl rfl rfl q_X3_within.2 ⟨Nat.le_of_ble_eq_true rfl, Nat.le_of_ble_eq_true rfl⟩) (kPS hK hP [] rfl [.int v, .int 9]) rfl rfl hl.1 rfl (lv_room (Nat.le_of_ble_eq_true rfl)) dX3_grow_3 ⟨Nat.zero_le _, Nat.zero_le _⟩) ?_
  refine lv_if_ne (tgt := 12) hx hb dX3_grow_6 (by decide) (fun c6 => ?_) (fun c6 => ?_)
  · skip
    refine lv_aload_n hx hb dX3_grow_12 rfl (lv_at hl 0 rfl) ?_
    refine kPi (va_runV (As := []) (rest := []) ⟨hx, hb, hml, hown, hts⟩ (c_X3_noSecret l D cI cS h sa p0 aa ab q0 b0 q1 q2 q3 old rd tr lf an pn gr kd pl wt) (cwV 0 hts gX3_grow_X3_noSecret rfl rfl rfl q_X3_noSecret ⟨Nat.le_of_ble_eq_true rfl, Nat.le_of_ble_eq_true rfl⟩) (kPV hK hP [0, 4, 5, 6, 7] rfl (va_recv hK.1 hP (ci := 3) (q0 := 0) rfl rfl) []) rfl rfl hl.1 rfl (lv_room (Nat.le_of_ble_eq_true rfl)) dX3_grow_13 ⟨Nat.zero_le _, Nat.zero_le _⟩) ?_
    refine lv_if_eq (tgt := 22) hx hb dX3_grow_16 (by decide) (fun c16 => ?_) (fun c16 => ?_)
    · skip
      refine lv_aload_n hx hb dX3_grow_22 rfl (lv_at hl 0 rfl) ?_
      refine va_get (D := D) (ci := 3) (v := .ref q0) (C := RX3) (T := TX3) (N := 10) hx hb hts (fun _ h => List.mem_cons_of_mem _ (List.mem_append_left _ (List.mem_append_right _ h))) hown hK.1 hP 0 rfl rfl 4 (by decide) (hts (.fieldLink RX3 34 "LieNights" "secret" "LLieNights$Secret;") (List.mem_of_getElem? (i := 1) rfl)) (fun _ h9 => h9) rfl dX3_grow_23 ?_
      refine kPi (va_runV (As := []) (rest := []) ⟨hx, hb, hml, hown, hts⟩ (c_X1_growth l D cI cS q0 q1 q2 q3 an pn gr kd pl wt) (cwV 0 hts gX3_grow_X1_growth rfl rfl rfl q_X1_growth ⟨Nat.le_of_ble_eq_true rfl, Nat.le_of_ble_eq_true rfl⟩) (kPV hK hP [4, 5, 6, 7] rfl (va_recv hK.1 hP (ci := 1) (q0 := 4) rfl rfl) []) rfl rfl hl.1 rfl (lv_room (Nat.le_of_ble_eq_true rfl)) dX3_grow_26 ⟨Nat.zero_le _, Nat.zero_le _⟩) ?_
      refine lv_istore_n (lv' := [(2, .int (fX1_growth gr)), (0, .ref h), (1, .int v)]) hx hb dX3_grow_29 rfl hl (by decide) rfl (fun ls hl => ?_)
      refine lv_aload_n hx hb dX3_grow_30 rfl (lv_at hl 1 rfl) ?_
      refine va_get (D := D) (ci := 3) (v := .ref q0) (C := RX3) (T := TX3) (N := 10) hx hb hts (fun _ h => List.mem_cons_of_mem _ (List.mem_append_left _ (List.mem_append_right _ h))) hown hK.1 hP 0 rfl rfl 4 (by decide) (hts (.fieldLink RX3 34 "LieNights" "secret" "LLieNights$Secret;") (List.mem_of_getElem? (i := 1) rfl)) (fun _ h9 => h9) rfl dX3_grow_31 ?_
      refine lv_iload_n hx hb dX3_grow_34 rfl (lv_at hl 2 rfl) ?_
      refine kMv (wl' := (wL17 cI cS h sa p0 aa ab q0 b0 q0 q1 q2 q3 b0 b1 b2 b3 p1 p2 p3 p4 sf old rd tr lf ask shw an pn (fX1_setGrowth v) kd pl wt ban bpn bgr bkd bpl bwt al wo fi ni pa)) (wc := (wSec cI q0 q1 q2 q3 an pn gr kd pl wt)) (w1 := (wSec cI q0 q1 q2 q3 an pn (fX1_setGrowth v) kd pl wt)) hP hD hS [4, 5, 6, 7] rfl rfl rfl (va_runV (As := [.int v]) (rest := []) ⟨hx, hb, hml, hown, hts⟩ (c_X1_setGrowth l D cI cS q0 q1 q2 q3 an pn gr kd pl wt v) (cwV 1 hts gX3_grow_X1_setGrowth rfl rfl rfl q_X1_setGrowth ⟨Nat.le_of_ble_eq_true rfl, Nat.le_of_ble_eq_true rfl⟩) (kMV hK hP hD [4, 5, 6, 7] rfl rfl (va_recv hK.1 hP (ci := 1) (q0 := 4) rfl rfl) [.int v]) rfl rfl hl.1 rfl (lv_room (Nat.le_of_ble_eq_true rfl)) dX3_grow_35 ⟨Nat.zero_le _, Nat.zero_le _⟩) (fun H locs hP hD hS => ?_)
      refine lv_iload_n hx hb dX3_grow_38 rfl (lv_at hl 0 rfl) ?_
      have hR1 : (fX3_grow an gr v) = ((fX1_growth gr), (fX1_setGrowth v)) := (by unfold fX3_grow; rw [if_neg c6, if_pos c16])
      rw [hQ]
      exact W.iret (v := (fX1_growth gr)) hx hb hr (fun t ht hW => ⟨⟨_, (), rfl, (by show _ = _; rw [hR1]), (by show va_P D vwCl _ t.heap; rw [hR1, ht]; exact hP)⟩, hS.F ht⟩) hS.2.2 dX3_grow_39
    refine lv_bipush (v := (-3)) hx hb dX3_grow_19 (by decide) ?_
    have hR2 : (fX3_grow an gr v) = ((-3), gr) := (by unfold fX3_grow; rw [if_neg c6, if_neg c16])
    rw [hQ]
    exact W.iret (v := (-3)) hx hb hr (fun t ht hW => ⟨⟨_, (), rfl, (by show _ = _; rw [hR2]), (by show va_P D vwCl _ t.heap; rw [hR2, ht]; exact hP)⟩, hS.F ht⟩) hS.2.2 dX3_grow_21
  refine lv_bipush (v := (-2)) hx hb dX3_grow_9 (by decide) ?_
  have hR3 : (fX3_grow an gr v) = ((-2), gr) := (by unfold fX3_grow; rw [if_pos c6])
  rw [hQ]
  exact W.iret (v := (-2)) hx hb hr (fun t ht hW => ⟨⟨_, (), rfl, (by show _ = _; rw [hR3]), (by show va_P D vwCl _ t.heap; rw [hR3, ht]; exact hP)⟩, hS.F ht⟩) hS.2.2 dX3_grow_11

def fX3_shown (an : Int32) (kd pl : Nat → Int32) (x t : Int32) : Int32 := (if (fX3_isAnswer an x) = 0 then (-1) else (if (fX3_isAnswer an t) = 0 then (-1) else (fX1_shownBy kd pl x t)))
theorem q_X3_shown : yX3_shown.cls = RX3 ∧ yX3_shown.cls ≠ "java/lang/invoke/MethodHandle" ∧ yX3_shown.cls ≠ "java/lang/invoke/VarHandle" ∧ (parseMethodDescriptor yX3_shown.desc).map (fun d => d.parameters.length) = some 2 := by decide +kernel
set_option maxHeartbeats 4000000 in
set_option maxRecDepth 100000 in
theorem c_X3_shown (l : Launch) (D : va_G) (cI cS : ClassId) (h sa p0 aa ab q0 q1 q2 q3 b0 b1 b2 b3 p1 p2 p3 p4 : Nat) (sf : Nat → Option Nat) (old rd tr lf : Int32) (ask shw : Nat → Int32) (an pn gr : Int32) (kd pl wt : Nat → Int32) (ban bpn bgr : Int32) (bkd bpl bwt al wo fi ni : Nat → Int32) (pa x t : Int32)  : PMi l yX3_shown wsX3_shown { frames := 2, cells := 0, slots := 0, locals := 44 } D cI cS (wL17 cI cS h sa p0 aa ab q0 b0 q0 q1 q2 q3 b0 b1 b2 b3 p1 p2 p3 p4 sf old rd tr lf ask shw an pn gr kd pl wt ban bpn bgr bkd bpl bwt al wo fi ni pa) [.ref h, .int x, .int t] (fX3_shown an kd pl x t) := by
  refine kEnter (cc := cX3_shown) (maxL := 3) (ret := (some .int)) (by decide) rfl (Nat.le_of_ble_eq_true rfl) ?_
  intro p e s m below meth c ls Qf hQ hx hb hml hr hlocks hown hts hK hP hl
  have hown : s.vm.findClass RX3 = some m.cls := hown
  have hl : lv_has ls 3 [(0, .ref h), (1, .int x), (2, .int t)] := hl
  refine lv_aload_n hx hb dX3_shown_0 rfl (lv_at hl 0 rfl) ?_
  refine lv_iload_n hx hb dX3_shown_1 rfl (lv_at hl 1 rfl) ?_
  refine kPi (va_runV (As := [.int x]) (rest := []) ⟨hx, hb, hml, hown, hts⟩ (c_X3_isAnswer l D cI cS h sa p0 aa ab q0 b0 q1 q2 q3 old rd tr lf an pn gr kd pl wt x) (cwV 1 hts gX3_shown_X3_isAnswer rfl rfl rfl q_X3_isAnswer ⟨Nat.le_of_ble_eq_true rfl, Nat.le_of_ble_eq_true rfl⟩) (kPV hK hP [0, 4, 5, 6, 7] rfl (va_recv hK.1 hP (ci := 3) (q0 := 0) rfl rfl) [.int x]) rfl rfl hl.1 rfl (lv_room (Nat.le_of_ble_eq_true rfl)) dX3_shown_2 ⟨Nat.zero_le _, Nat.zero_le _⟩) ?_
  refine lv_if_eq (tgt := 16) hx hb dX3_shown_5 (by decide) (fun c5 => ?_) (fun c5 => ?_)
  · skip
    refine lv_iconst (v := (-1)) hx hb dX3_shown_16 (by decide) ?_
    have hR1 : (fX3_shown an kd pl x t) = (-1) := (by unfold fX3_shown; rw [if_pos c5])
    rw [hQ]
    exact W.iret (v := (-1)) hx hb hr (fun t ht hW => ⟨_, rfl, hR1.symm, ht⟩) (fun q h => by cases h) dX3_shown_17
  refine lv_aload_n hx hb dX3_shown_8 rfl (lv_at hl 0 rfl) ?_
  refine lv_iload_n hx hb dX3_shown_9 rfl (lv_at hl 2 rfl) ?_
  refine kPi (va_runV (As := [.int t]) (rest := []) ⟨hx, hb, hml, hown, hts⟩ (c_X3_isAnswer l D cI cS h sa p0 aa ab q0 b0 q1 q2 q3 old rd tr lf an pn gr kd pl wt t) (cwV 1 hts gX3_shown_X3_isAnswer rfl rfl rfl q_X3_isAnswer ⟨Nat.le_of_ble_eq_true rfl, Nat.le_of_ble_eq_true rfl⟩) (kPV hK hP [0, 4, 5, 6, 7] rfl (va_recv hK.1 hP (ci := 3) (q0 := 0) rfl rfl) [.int t]) rfl rfl hl.1 rfl (lv_room (Nat.le_of_ble_eq_true rfl)) dX3_shown_10 ⟨Nat.zero_le _, Nat.zero_le _⟩) ?_
  refine lv_if_ne (tgt := 18) hx hb dX3_shown_13 (by decide) (fun c13 => ?_) (fun c13 => ?_)
  · skip
    refine lv_aload_n hx hb dX3_shown_18 rfl (lv_at hl 0 rfl) ?_
    refine va_get (D := D) (ci := 3) (v := .ref q0) (C := RX3) (T := TX3) (N := 10) hx hb hts (fun _ h => List.mem_cons_of_mem _ (List.mem_append_left _ (List.mem_append_right _ h))) hown hK.1 hP 0 rfl rfl 4 (by decide) (hts (.fieldLink RX3 34 "LieNights" "secret" "LLieNights$Secret;") (List.mem_of_getElem? (i := 1) rfl)) (fun _ h9 => h9) rfl dX3_shown_19 ?_
    refine lv_iload_n hx hb dX3_shown_22 rfl (lv_at hl 1 rfl) ?_
    refine lv_iload_n hx hb dX3_shown_23 rfl (lv_at hl 2 rfl) ?_
    refine kPi (va_runV (As := [.int x, .int t]) (rest := []) ⟨hx, hb, hml, hown, hts⟩ (c_X1_shownBy l D cI cS q0 q1 q2 q3 an pn gr kd pl wt x t) (cwV 2 hts gX3_shown_X1_shownBy rfl rfl rfl q_X1_shownBy ⟨Nat.le_of_ble_eq_true rfl, Nat.le_of_ble_eq_true rfl⟩) (kPV hK hP [4, 5, 6, 7] rfl (va_recv hK.1 hP (ci := 1) (q0 := 4) rfl rfl) [.int x, .int t]) rfl rfl hl.1 rfl (lv_room (Nat.le_of_ble_eq_true rfl)) dX3_shown_24 ⟨Nat.zero_le _, Nat.zero_le _⟩) ?_
    have hR2 : (fX3_shown an kd pl x t) = (fX1_shownBy kd pl x t) := (by unfold fX3_shown; rw [if_neg c5, if_neg c13])
    rw [hQ]
    exact W.iret (v := (fX1_shownBy kd pl x t)) hx hb hr (fun t ht hW => ⟨_, rfl, hR2.symm, ht⟩) (fun q h => by cases h) dX3_shown_27
  refine lv_iconst (v := (-1)) hx hb dX3_shown_16 (by decide) ?_
  have hR3 : (fX3_shown an kd pl x t) = (-1) := (by unfold fX3_shown; rw [if_neg c5, if_pos c13])
  rw [hQ]
  exact W.iret (v := (-1)) hx hb hr (fun t ht hW => ⟨_, rfl, hR3.symm, ht⟩) (fun q h => by cases h) dX3_shown_17

def fX3_worst (old an : Int32) (kd pl al wo fi ni : Nat → Int32) (pa : Int32) (N M : Nat) (se : Int32) : Int32 × (Nat → Int32) × (Nat → Int32) × (Nat → Int32) × (Nat → Int32) × Int32 × Int32 := (if (fX3_noSecret an) = 0 then (if (fX3_isSetOf (fX1_answers an) se) = 0 then ((-2), al, wo, fi, ni, pa, old) else ((fX0_worstOf ((fX3_planned old an kd pl al wo fi ni pa N M).2.1) se), (fX3_planned old an kd pl al wo fi ni pa N M).1, (fX3_planned old an kd pl al wo fi ni pa N M).2.1, (fX3_planned old an kd pl al wo fi ni pa N M).2.2.1, (fX3_planned old an kd pl al wo fi ni pa N M).2.2.2.1, (fX3_planned old an kd pl al wo fi ni pa N M).2.2.2.2.1, (fX3_planned old an kd pl al wo fi ni pa N M).2.2.2.2.2)) else ((-3), al, wo, fi, ni, pa, old))
theorem q_X3_worst : yX3_worst.cls = RX3 ∧ yX3_worst.cls ≠ "java/lang/invoke/MethodHandle" ∧ yX3_worst.cls ≠ "java/lang/invoke/VarHandle" ∧ (parseMethodDescriptor yX3_worst.desc).map (fun d => d.parameters.length) = some 1 := by decide +kernel
set_option maxHeartbeats 4000000 in
set_option maxRecDepth 100000 in
theorem c_X3_worst (l : Launch) (D : va_G) (cI cS : ClassId) (h sa p0 aa ab q0 q1 q2 q3 b0 b1 b2 b3 p1 p2 p3 p4 : Nat) (sf : Nat → Option Nat) (old rd tr lf : Int32) (ask shw : Nat → Int32) (an pn gr : Int32) (kd pl wt : Nat → Int32) (ban bpn bgr : Int32) (bkd bpl bwt al wo fi ni : Nat → Int32) (pa : Int32) (N M : Nat) (se : Int32) (ha : an = nI N) (hN : N ≤ 6) (hM : fX1_all an = nI M) (hMb : M < 64) : MMi l yX3_worst wsX3_worst { frames := 5, cells := 0, slots := 0, locals := 112 } D cI cS (wL17 cI cS h sa p0 aa ab q0 b0 q0 q1 q2 q3 b0 b1 b2 b3 p1 p2 p3 p4 sf old rd tr lf ask shw an pn gr kd pl wt ban bpn bgr bkd bpl bwt al wo fi ni pa) [.ref h, .int se] ((fX3_worst old an kd pl al wo fi ni pa N M se).1) (wL17 cI cS h sa p0 aa ab q0 b0 q0 q1 q2 q3 b0 b1 b2 b3 p1 p2 p3 p4 sf ((fX3_worst old an kd pl al wo fi ni pa N M se).2.2.2.2.2.2) rd tr lf ask shw an pn gr kd pl wt ban bpn bgr bkd bpl bwt ((fX3_worst old an kd pl al wo fi ni pa N M se).2.1) ((fX3_worst old an kd pl al wo fi ni pa N M se).2.2.1) ((fX3_worst old an kd pl al wo fi ni pa N M se).2.2.2.1) ((fX3_worst old an kd pl al wo fi ni pa N M se).2.2.2.2.1) ((fX3_worst old an kd pl al wo fi ni pa N M se).2.2.2.2.2.1)) := by
  refine kEnterM (cc := cX3_worst) (maxL := 2) (ret := (some .int)) (by decide) rfl (Nat.le_of_ble_eq_true rfl) ?_
  intro p e s m below meth c ls Qf hQ hx hb hml hr hlocks hown hts hK hP hD hS hl
  have hown : s.vm.findClass RX3 = some m.cls := hown
  have hl : lv_has ls 2 [(0, .ref h), (1, .int se)] := hl
  generalize kA (wL17 cI cS h sa p0 aa ab q0 b0 q0 q1 q2 q3 b0 b1 b2 b3 p1 p2 p3 p4 sf old rd tr lf ask shw an pn gr kd pl wt ban bpn bgr bkd bpl bwt al wo fi ni pa) = A at hQ hD hS
  refine lv_aload_n hx hb dX3_worst_0 rfl (lv_at hl 0 rfl) ?_
  refine kPi (va_runV (As := []) (rest := []) ⟨hx, hb, hml, hown, hts⟩ (c_X3_noSecret l D cI cS h sa p0 aa ab q0 b0 q1 q2 q3 old rd tr lf an pn gr kd pl wt) (cwV 0 hts gX3_worst_X3_noSecret rfl rfl rfl q_X3_noSecret ⟨Nat.le_of_ble_eq_true rfl, Nat.le_of_ble_eq_true rfl⟩) (kPV hK hP [0, 4, 5, 6, 7] rfl (va_recv hK.1 hP (ci := 3) (q0 := 0) rfl rfl) []) rfl rfl hl.1 rfl (lv_room (Nat.le_of_ble_eq_true rfl)) dX3_worst_1 ⟨Nat.zero_le _, Nat.zero_le _⟩) ?_
  refine lv_if_eq (tgt := 10) hx hb dX3_worst_4 (by decide) (fun c4 => ?_) (fun c4 => ?_)
  · skip
    refine lv_aload_n hx hb dX3_worst_10 rfl (lv_at hl 0 rfl) ?_
    refine va_get (D := D) (ci := 3) (v := .ref q0) (C := RX3) (T := TX3) (N := 10) hx hb hts (fun _ h => List.mem_cons_of_mem _ (List.mem_append_left _ (List.mem_append_left _ (List.mem_append_right _ h)))) hown hK.1 hP 0 rfl rfl 4 (by decide) (hts (.fieldLink RX3 34 "LieNights" "secret" "LLieNights$Secret;") (List.mem_of_getElem? (i := 1) rfl)) (fun _ h9 => h9) rfl dX3_worst_11 ?_
    refine kPi (va_runV (As := []) (rest := []) ⟨hx, hb, hml, hown, hts⟩ (c_X1_answers l D cI cS q0 q1 q2 q3 an pn gr kd pl wt) (cwV 0 hts gX3_worst_X1_answers rfl rfl rfl q_X1_answers ⟨Nat.le_of_ble_eq_true rfl, Nat.le_of_ble_eq_true rfl⟩) (kPV hK hP [4, 5, 6, 7] rfl (va_recv hK.1 hP (ci := 1) (q0 := 4) rfl rfl) []) rfl rfl hl.1 rfl (lv_room (Nat.le_of_ble_eq_true rfl)) dX3_worst_14 ⟨Nat.zero_le _, Nat.zero_le _⟩) ?_
    refine lv_iload_n hx hb dX3_worst_17 rfl (lv_at hl 1 rfl) ?_
    refine kPi (va_runS (As := [.int (fX1_answers an), .int se]) (rest := []) ⟨hx, hb, hml, hown, hts⟩ (c_X3_isSetOf l D cI cS (fX1_answers an) se) (va_cwS 2 hts gX3_worst_X3_isSetOf rfl rfl rfl q_X3_isSetOf.2 ⟨Nat.le_of_ble_eq_true rfl, Nat.le_of_ble_eq_true rfl⟩) (kPS hK hP [] rfl [.int (fX1_answers an), .int se]) rfl rfl hl.1 rfl (lv_room (Nat.le_of_ble_eq_true rfl)) dX3_worst_18 ⟨Nat.zero_le _, Nat.zero_le _⟩) ?_
    refine lv_if_ne (tgt := 27) hx hb dX3_worst_21 (by decide) (fun c21 => ?_) (fun c21 => ?_)
    · skip
      refine lv_aload_n hx hb dX3_worst_27 rfl (lv_at hl 0 rfl) ?_
      refine kMq (wl' := (wL17 cI cS h sa p0 aa ab q0 b0 q0 q1 q2 q3 b0 b1 b2 b3 p1 p2 p3 p4 sf ((fX3_planned old an kd pl al wo fi ni pa N M).2.2.2.2.2) rd tr lf ask shw an pn gr kd pl wt ban bpn bgr bkd bpl bwt ((fX3_planned old an kd pl al wo fi ni pa N M).1) ((fX3_planned old an kd pl al wo fi ni pa N M).2.1) ((fX3_planned old an kd pl al wo fi ni pa N M).2.2.1) ((fX3_planned old an kd pl al wo fi ni pa N M).2.2.2.1) ((fX3_planned old an kd pl al wo fi ni pa N M).2.2.2.2.1))) (wc := (wL10 cI h sa p0 aa ab q0 b0 q1 q2 q3 p1 p2 p3 p4 old rd tr lf an pn gr kd pl wt al wo fi ni pa)) (w1 := (wL10 cI h sa p0 aa ab q0 b0 q1 q2 q3 p1 p2 p3 p4 ((fX3_planned old an kd pl al wo fi ni pa N M).2.2.2.2.2) rd tr lf an pn gr kd pl wt ((fX3_planned old an kd pl al wo fi ni pa N M).1) ((fX3_planned old an kd pl al wo fi ni pa N M).2.1) ((fX3_planned old an kd pl al wo fi ni pa N M).2.2.1) ((fX3_planned old an kd pl al wo fi ni pa N M).2.2.2.1) ((fX3_planned old an kd pl al wo fi ni pa N M).2.2.2.2.1))) hP hD hS [0, 4, 5, 6, 7, 12, 13, 14, 15, 16] rfl rfl rfl (va_runV (As := []) (rest := []) ⟨hx, hb, hml, hown, hts⟩ (c_X3_planned l D cI cS h sa p0 aa ab q0 b0 q1 q2 q3 p1 p2 p3 p4 old rd tr lf an pn gr kd pl wt al wo fi ni pa N M ha hN hM hMb) (cwV 0 hts gX3_worst_X3_planned rfl rfl rfl q_X3_planned ⟨Nat.le_of_ble_eq_true rfl, Nat.le_of_ble_eq_true rfl⟩) (kMV hK hP hD [0, 4, 5, 6, 7, 12, 13, 14, 15, 16] rfl rfl (va_recv hK.1 hP (ci := 3) (q0 := 0) rfl rfl) []) rfl rfl hl.1 rfl (lv_room (Nat.le_of_ble_eq_true rfl)) dX3_worst_28 ⟨Nat.zero_le _, Nat.zero_le _⟩) (fun H locs hP hD hS => ?_)
      refine lv_iload_n hx hb dX3_worst_31 rfl (lv_at hl 1 rfl) ?_
      refine kPi (va_runV (As := [.int se]) (rest := []) ⟨hx, hb, hml, hown, hts⟩ (c_X0_worstOf l D cI cS p0 p1 p2 p3 p4 ((fX3_planned old an kd pl al wo fi ni pa N M).1) ((fX3_planned old an kd pl al wo fi ni pa N M).2.1) ((fX3_planned old an kd pl al wo fi ni pa N M).2.2.1) ((fX3_planned old an kd pl al wo fi ni pa N M).2.2.2.1) ((fX3_planned old an kd pl al wo fi ni pa N M).2.2.2.2.1) se) (cwV 1 hts gX3_worst_X0_worstOf rfl rfl rfl q_X0_worstOf ⟨Nat.le_of_ble_eq_true rfl, Nat.le_of_ble_eq_true rfl⟩) (kPV hK hP [12, 13, 14, 15, 16] rfl (va_recv hK.1 hP (ci := 0) (q0 := 12) rfl rfl) [.int se]) rfl rfl hl.1 rfl (lv_room (Nat.le_of_ble_eq_true rfl)) dX3_worst_32 ⟨Nat.zero_le _, Nat.zero_le _⟩) ?_
      have hR1 : (fX3_worst old an kd pl al wo fi ni pa N M se) = ((fX0_worstOf ((fX3_planned old an kd pl al wo fi ni pa N M).2.1) se), (fX3_planned old an kd pl al wo fi ni pa N M).1, (fX3_planned old an kd pl al wo fi ni pa N M).2.1, (fX3_planned old an kd pl al wo fi ni pa N M).2.2.1, (fX3_planned old an kd pl al wo fi ni pa N M).2.2.2.1, (fX3_planned old an kd pl al wo fi ni pa N M).2.2.2.2.1, (fX3_planned old an kd pl al wo fi ni pa N M).2.2.2.2.2) := (by unfold fX3_worst; rw [if_pos c4, if_neg c21])
      rw [hQ]
      exact W.iret (v := (fX0_worstOf ((fX3_planned old an kd pl al wo fi ni pa N M).2.1) se)) hx hb hr (fun t ht hW => ⟨⟨_, (), rfl, (by show _ = _; rw [hR1]), (by show va_P D vwCl _ t.heap; rw [hR1, ht]; exact hP)⟩, hS.F ht⟩) hS.2.2 dX3_worst_35
    refine lv_bipush (v := (-2)) hx hb dX3_worst_24 (by decide) ?_
    have hR2 : (fX3_worst old an kd pl al wo fi ni pa N M se) = ((-2), al, wo, fi, ni, pa, old) := (by unfold fX3_worst; rw [if_pos c4, if_pos c21])
    rw [hQ]
    exact W.iret (v := (-2)) hx hb hr (fun t ht hW => ⟨⟨_, (), rfl, (by show _ = _; rw [hR2]), (by show va_P D vwCl _ t.heap; rw [hR2, ht]; exact hP)⟩, hS.F ht⟩) hS.2.2 dX3_worst_26
  refine lv_bipush (v := (-3)) hx hb dX3_worst_7 (by decide) ?_
  have hR3 : (fX3_worst old an kd pl al wo fi ni pa N M se) = ((-3), al, wo, fi, ni, pa, old) := (by unfold fX3_worst; rw [if_neg c4])
  rw [hQ]
  exact W.iret (v := (-3)) hx hb hr (fun t ht hW => ⟨⟨_, (), rfl, (by show _ = _; rw [hR3]), (by show va_P D vwCl _ t.heap; rw [hR3, ht]; exact hP)⟩, hS.F ht⟩) hS.2.2 dX3_worst_9

def fX3_ask (old an : Int32) (kd pl al wo fi ni : Nat → Int32) (pa : Int32) (N M : Nat) (se : Int32) : Int32 × (Nat → Int32) × (Nat → Int32) × (Nat → Int32) × (Nat → Int32) × Int32 × Int32 := (if (fX3_noSecret an) = 0 then (if (fX3_isSetOf (fX1_answers an) se) = 0 then ((-2), al, wo, fi, ni, pa, old) else ((fX0_askOf ((fX3_planned old an kd pl al wo fi ni pa N M).2.2.1) se), (fX3_planned old an kd pl al wo fi ni pa N M).1, (fX3_planned old an kd pl al wo fi ni pa N M).2.1, (fX3_planned old an kd pl al wo fi ni pa N M).2.2.1, (fX3_planned old an kd pl al wo fi ni pa N M).2.2.2.1, (fX3_planned old an kd pl al wo fi ni pa N M).2.2.2.2.1, (fX3_planned old an kd pl al wo fi ni pa N M).2.2.2.2.2)) else ((-3), al, wo, fi, ni, pa, old))
theorem q_X3_ask : yX3_ask.cls = RX3 ∧ yX3_ask.cls ≠ "java/lang/invoke/MethodHandle" ∧ yX3_ask.cls ≠ "java/lang/invoke/VarHandle" ∧ (parseMethodDescriptor yX3_ask.desc).map (fun d => d.parameters.length) = some 1 := by decide +kernel
set_option maxHeartbeats 4000000 in
set_option maxRecDepth 100000 in
theorem c_X3_ask (l : Launch) (D : va_G) (cI cS : ClassId) (h sa p0 aa ab q0 q1 q2 q3 b0 b1 b2 b3 p1 p2 p3 p4 : Nat) (sf : Nat → Option Nat) (old rd tr lf : Int32) (ask shw : Nat → Int32) (an pn gr : Int32) (kd pl wt : Nat → Int32) (ban bpn bgr : Int32) (bkd bpl bwt al wo fi ni : Nat → Int32) (pa : Int32) (N M : Nat) (se : Int32) (ha : an = nI N) (hN : N ≤ 6) (hM : fX1_all an = nI M) (hMb : M < 64) : MMi l yX3_ask wsX3_ask { frames := 5, cells := 0, slots := 0, locals := 112 } D cI cS (wL17 cI cS h sa p0 aa ab q0 b0 q0 q1 q2 q3 b0 b1 b2 b3 p1 p2 p3 p4 sf old rd tr lf ask shw an pn gr kd pl wt ban bpn bgr bkd bpl bwt al wo fi ni pa) [.ref h, .int se] ((fX3_ask old an kd pl al wo fi ni pa N M se).1) (wL17 cI cS h sa p0 aa ab q0 b0 q0 q1 q2 q3 b0 b1 b2 b3 p1 p2 p3 p4 sf ((fX3_ask old an kd pl al wo fi ni pa N M se).2.2.2.2.2.2) rd tr lf ask shw an pn gr kd pl wt ban bpn bgr bkd bpl bwt ((fX3_ask old an kd pl al wo fi ni pa N M se).2.1) ((fX3_ask old an kd pl al wo fi ni pa N M se).2.2.1) ((fX3_ask old an kd pl al wo fi ni pa N M se).2.2.2.1) ((fX3_ask old an kd pl al wo fi ni pa N M se).2.2.2.2.1) ((fX3_ask old an kd pl al wo fi ni pa N M se).2.2.2.2.2.1)) := by
  refine kEnterM (cc := cX3_ask) (maxL := 2) (ret := (some .int)) (by decide) rfl (Nat.le_of_ble_eq_true rfl) ?_
  intro p e s m below meth c ls Qf hQ hx hb hml hr hlocks hown hts hK hP hD hS hl
  have hown : s.vm.findClass RX3 = some m.cls := hown
  have hl : lv_has ls 2 [(0, .ref h), (1, .int se)] := hl
  generalize kA (wL17 cI cS h sa p0 aa ab q0 b0 q0 q1 q2 q3 b0 b1 b2 b3 p1 p2 p3 p4 sf old rd tr lf ask shw an pn gr kd pl wt ban bpn bgr bkd bpl bwt al wo fi ni pa) = A at hQ hD hS
  refine lv_aload_n hx hb dX3_ask_0 rfl (lv_at hl 0 rfl) ?_
  refine kPi (va_runV (As := []) (rest := []) ⟨hx, hb, hml, hown, hts⟩ (c_X3_noSecret l D cI cS h sa p0 aa ab q0 b0 q1 q2 q3 old rd tr lf an pn gr kd pl wt) (cwV 0 hts gX3_ask_X3_noSecret rfl rfl rfl q_X3_noSecret ⟨Nat.le_of_ble_eq_true rfl, Nat.le_of_ble_eq_true rfl⟩) (kPV hK hP [0, 4, 5, 6, 7] rfl (va_recv hK.1 hP (ci := 3) (q0 := 0) rfl rfl) []) rfl rfl hl.1 rfl (lv_room (Nat.le_of_ble_eq_true rfl)) dX3_ask_1 ⟨Nat.zero_le _, Nat.zero_le _⟩) ?_
  refine lv_if_eq (tgt := 10) hx hb dX3_ask_4 (by decide) (fun c4 => ?_) (fun c4 => ?_)
  · skip
    refine lv_aload_n hx hb dX3_ask_10 rfl (lv_at hl 0 rfl) ?_
    refine va_get (D := D) (ci := 3) (v := .ref q0) (C := RX3) (T := TX3) (N := 10) hx hb hts (fun _ h => List.mem_cons_of_mem _ (List.mem_append_left _ (List.mem_append_left _ (List.mem_append_right _ h)))) hown hK.1 hP 0 rfl rfl 4 (by decide) (hts (.fieldLink RX3 34 "LieNights" "secret" "LLieNights$Secret;") (List.mem_of_getElem? (i := 1) rfl)) (fun _ h9 => h9) rfl dX3_ask_11 ?_
    refine kPi (va_runV (As := []) (rest := []) ⟨hx, hb, hml, hown, hts⟩ (c_X1_answers l D cI cS q0 q1 q2 q3 an pn gr kd pl wt) (cwV 0 hts gX3_ask_X1_answers rfl rfl rfl q_X1_answers ⟨Nat.le_of_ble_eq_true rfl, Nat.le_of_ble_eq_true rfl⟩) (kPV hK hP [4, 5, 6, 7] rfl (va_recv hK.1 hP (ci := 1) (q0 := 4) rfl rfl) []) rfl rfl hl.1 rfl (lv_room (Nat.le_of_ble_eq_true rfl)) dX3_ask_14 ⟨Nat.zero_le _, Nat.zero_le _⟩) ?_
    refine lv_iload_n hx hb dX3_ask_17 rfl (lv_at hl 1 rfl) ?_
    refine kPi (va_runS (As := [.int (fX1_answers an), .int se]) (rest := []) ⟨hx, hb, hml, hown, hts⟩ (c_X3_isSetOf l D cI cS (fX1_answers an) se) (va_cwS 2 hts gX3_ask_X3_isSetOf rfl rfl rfl q_X3_isSetOf.2 ⟨Nat.le_of_ble_eq_true rfl, Nat.le_of_ble_eq_true rfl⟩) (kPS hK hP [] rfl [.int (fX1_answers an), .int se]) rfl rfl hl.1 rfl (lv_room (Nat.le_of_ble_eq_true rfl)) dX3_ask_18 ⟨Nat.zero_le _, Nat.zero_le _⟩) ?_
    refine lv_if_ne (tgt := 27) hx hb dX3_ask_21 (by decide) (fun c21 => ?_) (fun c21 => ?_)
    · skip
      refine lv_aload_n hx hb dX3_ask_27 rfl (lv_at hl 0 rfl) ?_
      refine kMq (wl' := (wL17 cI cS h sa p0 aa ab q0 b0 q0 q1 q2 q3 b0 b1 b2 b3 p1 p2 p3 p4 sf ((fX3_planned old an kd pl al wo fi ni pa N M).2.2.2.2.2) rd tr lf ask shw an pn gr kd pl wt ban bpn bgr bkd bpl bwt ((fX3_planned old an kd pl al wo fi ni pa N M).1) ((fX3_planned old an kd pl al wo fi ni pa N M).2.1) ((fX3_planned old an kd pl al wo fi ni pa N M).2.2.1) ((fX3_planned old an kd pl al wo fi ni pa N M).2.2.2.1) ((fX3_planned old an kd pl al wo fi ni pa N M).2.2.2.2.1))) (wc := (wL10 cI h sa p0 aa ab q0 b0 q1 q2 q3 p1 p2 p3 p4 old rd tr lf an pn gr kd pl wt al wo fi ni pa)) (w1 := (wL10 cI h sa p0 aa ab q0 b0 q1 q2 q3 p1 p2 p3 p4 ((fX3_planned old an kd pl al wo fi ni pa N M).2.2.2.2.2) rd tr lf an pn gr kd pl wt ((fX3_planned old an kd pl al wo fi ni pa N M).1) ((fX3_planned old an kd pl al wo fi ni pa N M).2.1) ((fX3_planned old an kd pl al wo fi ni pa N M).2.2.1) ((fX3_planned old an kd pl al wo fi ni pa N M).2.2.2.1) ((fX3_planned old an kd pl al wo fi ni pa N M).2.2.2.2.1))) hP hD hS [0, 4, 5, 6, 7, 12, 13, 14, 15, 16] rfl rfl rfl (va_runV (As := []) (rest := []) ⟨hx, hb, hml, hown, hts⟩ (c_X3_planned l D cI cS h sa p0 aa ab q0 b0 q1 q2 q3 p1 p2 p3 p4 old rd tr lf an pn gr kd pl wt al wo fi ni pa N M ha hN hM hMb) (cwV 0 hts gX3_ask_X3_planned rfl rfl rfl q_X3_planned ⟨Nat.le_of_ble_eq_true rfl, Nat.le_of_ble_eq_true rfl⟩) (kMV hK hP hD [0, 4, 5, 6, 7, 12, 13, 14, 15, 16] rfl rfl (va_recv hK.1 hP (ci := 3) (q0 := 0) rfl rfl) []) rfl rfl hl.1 rfl (lv_room (Nat.le_of_ble_eq_true rfl)) dX3_ask_28 ⟨Nat.zero_le _, Nat.zero_le _⟩) (fun H locs hP hD hS => ?_)
      refine lv_iload_n hx hb dX3_ask_31 rfl (lv_at hl 1 rfl) ?_
      refine kPi (va_runV (As := [.int se]) (rest := []) ⟨hx, hb, hml, hown, hts⟩ (c_X0_askOf l D cI cS p0 p1 p2 p3 p4 ((fX3_planned old an kd pl al wo fi ni pa N M).1) ((fX3_planned old an kd pl al wo fi ni pa N M).2.1) ((fX3_planned old an kd pl al wo fi ni pa N M).2.2.1) ((fX3_planned old an kd pl al wo fi ni pa N M).2.2.2.1) ((fX3_planned old an kd pl al wo fi ni pa N M).2.2.2.2.1) se) (cwV 1 hts gX3_ask_X0_askOf rfl rfl rfl q_X0_askOf ⟨Nat.le_of_ble_eq_true rfl, Nat.le_of_ble_eq_true rfl⟩) (kPV hK hP [12, 13, 14, 15, 16] rfl (va_recv hK.1 hP (ci := 0) (q0 := 12) rfl rfl) [.int se]) rfl rfl hl.1 rfl (lv_room (Nat.le_of_ble_eq_true rfl)) dX3_ask_32 ⟨Nat.zero_le _, Nat.zero_le _⟩) ?_
      have hR1 : (fX3_ask old an kd pl al wo fi ni pa N M se) = ((fX0_askOf ((fX3_planned old an kd pl al wo fi ni pa N M).2.2.1) se), (fX3_planned old an kd pl al wo fi ni pa N M).1, (fX3_planned old an kd pl al wo fi ni pa N M).2.1, (fX3_planned old an kd pl al wo fi ni pa N M).2.2.1, (fX3_planned old an kd pl al wo fi ni pa N M).2.2.2.1, (fX3_planned old an kd pl al wo fi ni pa N M).2.2.2.2.1, (fX3_planned old an kd pl al wo fi ni pa N M).2.2.2.2.2) := (by unfold fX3_ask; rw [if_pos c4, if_neg c21])
      rw [hQ]
      exact W.iret (v := (fX0_askOf ((fX3_planned old an kd pl al wo fi ni pa N M).2.2.1) se)) hx hb hr (fun t ht hW => ⟨⟨_, (), rfl, (by show _ = _; rw [hR1]), (by show va_P D vwCl _ t.heap; rw [hR1, ht]; exact hP)⟩, hS.F ht⟩) hS.2.2 dX3_ask_35
    refine lv_bipush (v := (-2)) hx hb dX3_ask_24 (by decide) ?_
    have hR2 : (fX3_ask old an kd pl al wo fi ni pa N M se) = ((-2), al, wo, fi, ni, pa, old) := (by unfold fX3_ask; rw [if_pos c4, if_pos c21])
    rw [hQ]
    exact W.iret (v := (-2)) hx hb hr (fun t ht hW => ⟨⟨_, (), rfl, (by show _ = _; rw [hR2]), (by show va_P D vwCl _ t.heap; rw [hR2, ht]; exact hP)⟩, hS.F ht⟩) hS.2.2 dX3_ask_26
  refine lv_bipush (v := (-3)) hx hb dX3_ask_7 (by decide) ?_
  have hR3 : (fX3_ask old an kd pl al wo fi ni pa N M se) = ((-3), al, wo, fi, ni, pa, old) := (by unfold fX3_ask; rw [if_neg c4])
  rw [hQ]
  exact W.iret (v := (-3)) hx hb hr (fun t ht hW => ⟨⟨_, (), rfl, (by show _ = _; rw [hR3]), (by show va_P D vwCl _ t.heap; rw [hR3, ht]; exact hP)⟩, hS.F ht⟩) hS.2.2 dX3_ask_9

def fX3_mean (old an : Int32) (kd pl al wo fi ni : Nat → Int32) (pa : Int32) (N M Bc : Nat) (se wh : Int32) : Int64 × (Nat → Int32) × (Nat → Int32) × (Nat → Int32) × (Nat → Int32) × Int32 × Int32 := (if (fX3_noSecret an) = 0 then (if (fX3_isSetOf (fX1_answers an) se) = 0 then ((-9223372036854775808), al, wo, fi, ni, pa, old) else (if se = 0 then ((-9223372036854775808), al, wo, fi, ni, pa, old) else (if (fX3_within wh 1) = 0 then ((-9223372036854775808), al, wo, fi, ni, pa, old) else ((fX3_shareNumber Bc (fX0_nightsOf ((fX3_planned old an kd pl al wo fi ni pa N M).2.2.2.1) se) (fJ6_bitCount_0f7a4 se) wh), (fX3_planned old an kd pl al wo fi ni pa N M).1, (fX3_planned old an kd pl al wo fi ni pa N M).2.1, (fX3_planned old an kd pl al wo fi ni pa N M).2.2.1, (fX3_planned old an kd pl al wo fi ni pa N M).2.2.2.1, (fX3_planned old an kd pl al wo fi ni pa N M).2.2.2.2.1, (fX3_planned old an kd pl al wo fi ni pa N M).2.2.2.2.2)))) else ((-9223372036854775808), al, wo, fi, ni, pa, old))
theorem q_X3_mean : yX3_mean.cls = RX3 ∧ yX3_mean.cls ≠ "java/lang/invoke/MethodHandle" ∧ yX3_mean.cls ≠ "java/lang/invoke/VarHandle" ∧ (parseMethodDescriptor yX3_mean.desc).map (fun d => d.parameters.length) = some 2 := by decide +kernel
set_option maxHeartbeats 4000000 in
set_option maxRecDepth 100000 in
theorem c_X3_mean (l : Launch) (D : va_G) (cI cS : ClassId) (h sa p0 aa ab q0 q1 q2 q3 b0 b1 b2 b3 p1 p2 p3 p4 : Nat) (sf : Nat → Option Nat) (old rd tr lf : Int32) (ask shw : Nat → Int32) (an pn gr : Int32) (kd pl wt : Nat → Int32) (ban bpn bgr : Int32) (bkd bpl bwt al wo fi ni : Nat → Int32) (pa : Int32) (N M Bc : Nat) (se wh : Int32) (ha : an = nI N) (hN : N ≤ 6) (hM : fX1_all an = nI M) (hMb : M < 64) (hbc : ¬ (fX3_isSetOf (fX1_answers an) se) = 0 → fJ6_bitCount_0f7a4 se = nI Bc) (hBc : Bc < 2 ^ 31) : MMl l yX3_mean wsX3_mean { frames := 5, cells := 0, slots := 0, locals := 112 } D cI cS (wL17 cI cS h sa p0 aa ab q0 b0 q0 q1 q2 q3 b0 b1 b2 b3 p1 p2 p3 p4 sf old rd tr lf ask shw an pn gr kd pl wt ban bpn bgr bkd bpl bwt al wo fi ni pa) [.ref h, .int se, .int wh] ((fX3_mean old an kd pl al wo fi ni pa N M Bc se wh).1) (wL17 cI cS h sa p0 aa ab q0 b0 q0 q1 q2 q3 b0 b1 b2 b3 p1 p2 p3 p4 sf ((fX3_mean old an kd pl al wo fi ni pa N M Bc se wh).2.2.2.2.2.2) rd tr lf ask shw an pn gr kd pl wt ban bpn bgr bkd bpl bwt ((fX3_mean old an kd pl al wo fi ni pa N M Bc se wh).2.1) ((fX3_mean old an kd pl al wo fi ni pa N M Bc se wh).2.2.1) ((fX3_mean old an kd pl al wo fi ni pa N M Bc se wh).2.2.2.1) ((fX3_mean old an kd pl al wo fi ni pa N M Bc se wh).2.2.2.2.1) ((fX3_mean old an kd pl al wo fi ni pa N M Bc se wh).2.2.2.2.2.1)) := by
  refine kEnterM (cc := cX3_mean) (maxL := 3) (ret := (some .long)) (by decide) rfl (Nat.le_of_ble_eq_true rfl) ?_
  intro p e s m below meth c ls Qf hQ hx hb hml hr hlocks hown hts hK hP hD hS hl
  have hown : s.vm.findClass RX3 = some m.cls := hown
  have hl : lv_has ls 3 [(0, .ref h), (1, .int se), (2, .int wh)] := hl
  generalize kA (wL17 cI cS h sa p0 aa ab q0 b0 q0 q1 q2 q3 b0 b1 b2 b3 p1 p2 p3 p4 sf old rd tr lf ask shw an pn gr kd pl wt ban bpn bgr bkd bpl bwt al wo fi ni pa) = A at hQ hD hS
  refine lv_aload_n hx hb dX3_mean_0 rfl (lv_at hl 0 rfl) ?_
  refine kPi (va_runV (As := []) (rest := []) ⟨hx, hb, hml, hown, hts⟩ (c_X3_noSecret l D cI cS h sa p0 aa ab q0 b0 q1 q2 q3 old rd tr lf an pn gr kd pl wt) (cwV 0 hts gX3_mean_X3_noSecret rfl rfl rfl q_X3_noSecret ⟨Nat.le_of_ble_eq_true rfl, Nat.le_of_ble_eq_true rfl⟩) (kPV hK hP [0, 4, 5, 6, 7] rfl (va_recv hK.1 hP (ci := 3) (q0 := 0) rfl rfl) []) rfl rfl hl.1 rfl (lv_room (Nat.le_of_ble_eq_true rfl)) dX3_mean_1 ⟨Nat.zero_le _, Nat.zero_le _⟩) ?_
  refine lv_if_ne (tgt := 33) hx hb dX3_mean_4 (by decide) (fun c4 => ?_) (fun c4 => ?_)
  · skip
    refine lv_ldc2 hx hb hown (hts (.constantLong RX3 135 (-9223372036854775808)) (List.mem_of_getElem? (i := 2) rfl)) dX3_mean_33 ?_
    have hR1 : (fX3_mean old an kd pl al wo fi ni pa N M Bc se wh) = ((-9223372036854775808), al, wo, fi, ni, pa, old) := (by unfold fX3_mean; rw [if_neg c4])
    rw [hQ]
    exact W.lret (v := (-9223372036854775808)) hx hb hr (fun t ht hW => ⟨⟨_, (), rfl, (by show _ = _; rw [hR1]), (by show va_P D vwCl _ t.heap; rw [hR1, ht]; exact hP)⟩, hS.F ht⟩) hS.2.2 dX3_mean_36
  refine lv_aload_n hx hb dX3_mean_7 rfl (lv_at hl 0 rfl) ?_
  refine va_get (D := D) (ci := 3) (v := .ref q0) (C := RX3) (T := TX3) (N := 10) hx hb hts (fun _ h => List.mem_cons_of_mem _ (List.mem_append_left _ (List.mem_append_left _ (List.mem_append_right _ h)))) hown hK.1 hP 0 rfl rfl 4 (by decide) (hts (.fieldLink RX3 34 "LieNights" "secret" "LLieNights$Secret;") (List.mem_of_getElem? (i := 1) rfl)) (fun _ h9 => h9) rfl dX3_mean_8 ?_
  refine kPi (va_runV (As := []) (rest := []) ⟨hx, hb, hml, hown, hts⟩ (c_X1_answers l D cI cS q0 q1 q2 q3 an pn gr kd pl wt) (cwV 0 hts gX3_mean_X1_answers rfl rfl rfl q_X1_answers ⟨Nat.le_of_ble_eq_true rfl, Nat.le_of_ble_eq_true rfl⟩) (kPV hK hP [4, 5, 6, 7] rfl (va_recv hK.1 hP (ci := 1) (q0 := 4) rfl rfl) []) rfl rfl hl.1 rfl (lv_room (Nat.le_of_ble_eq_true rfl)) dX3_mean_11 ⟨Nat.zero_le _, Nat.zero_le _⟩) ?_
  refine lv_iload_n hx hb dX3_mean_14 rfl (lv_at hl 1 rfl) ?_
  refine kPi (va_runS (As := [.int (fX1_answers an), .int se]) (rest := []) ⟨hx, hb, hml, hown, hts⟩ (c_X3_isSetOf l D cI cS (fX1_answers an) se) (va_cwS 2 hts gX3_mean_X3_isSetOf rfl rfl rfl q_X3_isSetOf.2 ⟨Nat.le_of_ble_eq_true rfl, Nat.le_of_ble_eq_true rfl⟩) (kPS hK hP [] rfl [.int (fX1_answers an), .int se]) rfl rfl hl.1 rfl (lv_room (Nat.le_of_ble_eq_true rfl)) dX3_mean_15 ⟨Nat.zero_le _, Nat.zero_le _⟩) ?_
  refine lv_if_eq (tgt := 33) hx hb dX3_mean_18 (by decide) (fun c18 => ?_) (fun c18 => ?_)
  · skip
    refine lv_ldc2 hx hb hown (hts (.constantLong RX3 135 (-9223372036854775808)) (List.mem_of_getElem? (i := 2) rfl)) dX3_mean_33 ?_
    have hR2 : (fX3_mean old an kd pl al wo fi ni pa N M Bc se wh) = ((-9223372036854775808), al, wo, fi, ni, pa, old) := (by unfold fX3_mean; rw [if_pos c4, if_pos c18])
    rw [hQ]
    exact W.lret (v := (-9223372036854775808)) hx hb hr (fun t ht hW => ⟨⟨_, (), rfl, (by show _ = _; rw [hR2]), (by show va_P D vwCl _ t.heap; rw [hR2, ht]; exact hP)⟩, hS.F ht⟩) hS.2.2 dX3_mean_36
  refine lv_iload_n hx hb dX3_mean_21 rfl (lv_at hl 1 rfl) ?_
  refine lv_if_eq (tgt := 33) hx hb dX3_mean_22 (by decide) (fun c22 => ?_) (fun c22 => ?_)
  · skip
    refine lv_ldc2 hx hb hown (hts (.constantLong RX3 135 (-9223372036854775808)) (List.mem_of_getElem? (i := 2) rfl)) dX3_mean_33 ?_
    have hR3 : (fX3_mean old an kd pl al wo fi ni pa N M Bc se wh) = ((-9223372036854775808), al, wo, fi, ni, pa, old) := (by unfold fX3_mean; rw [if_pos c4, if_neg c18, if_pos c22])
    rw [hQ]
    exact W.lret (v := (-9223372036854775808)) hx hb hr (fun t ht hW => ⟨⟨_, (), rfl, (by show _ = _; rw [hR3]), (by show va_P D vwCl _ t.heap; rw [hR3, ht]; exact hP)⟩, hS.F ht⟩) hS.2.2 dX3_mean_36
  refine lv_iload_n hx hb dX3_mean_25 rfl (lv_at hl 2 rfl) ?_
  refine lv_iconst (v := 1) hx hb dX3_mean_26 (by decide) ?_
  refine kPi (va_runS (As := [.int wh, .int 1]) (rest := []) ⟨hx, hb, hml, hown, hts⟩ (c_X3_within l D cI cS wh 1) (va_cwS 2 hts gX3_mean_X3_within rfl rfl rfl q_X3_within.2 ⟨Nat.le_of_ble_eq_true rfl, Nat.le_of_ble_eq_true rfl⟩) (kPS hK hP [] rfl [.int wh, .int 1]) rfl rfl hl.1 rfl (lv_room (Nat.le_of_ble_eq_true rfl)) dX3_mean_27 ⟨Nat.zero_le _, Nat.zero_le _⟩) ?_
  refine lv_if_ne (tgt := 37) hx hb dX3_mean_30 (by decide) (fun c30 => ?_) (fun c30 => ?_)
  · skip
    refine lv_aload_n hx hb dX3_mean_37 rfl (lv_at hl 0 rfl) ?_
    refine kMq (wl' := (wL17 cI cS h sa p0 aa ab q0 b0 q0 q1 q2 q3 b0 b1 b2 b3 p1 p2 p3 p4 sf ((fX3_planned old an kd pl al wo fi ni pa N M).2.2.2.2.2) rd tr lf ask shw an pn gr kd pl wt ban bpn bgr bkd bpl bwt ((fX3_planned old an kd pl al wo fi ni pa N M).1) ((fX3_planned old an kd pl al wo fi ni pa N M).2.1) ((fX3_planned old an kd pl al wo fi ni pa N M).2.2.1) ((fX3_planned old an kd pl al wo fi ni pa N M).2.2.2.1) ((fX3_planned old an kd pl al wo fi ni pa N M).2.2.2.2.1))) (wc := (wL10 cI h sa p0 aa ab q0 b0 q1 q2 q3 p1 p2 p3 p4 old rd tr lf an pn gr kd pl wt al wo fi ni pa)) (w1 := (wL10 cI h sa p0 aa ab q0 b0 q1 q2 q3 p1 p2 p3 p4 ((fX3_planned old an kd pl al wo fi ni pa N M).2.2.2.2.2) rd tr lf an pn gr kd pl wt ((fX3_planned old an kd pl al wo fi ni pa N M).1) ((fX3_planned old an kd pl al wo fi ni pa N M).2.1) ((fX3_planned old an kd pl al wo fi ni pa N M).2.2.1) ((fX3_planned old an kd pl al wo fi ni pa N M).2.2.2.1) ((fX3_planned old an kd pl al wo fi ni pa N M).2.2.2.2.1))) hP hD hS [0, 4, 5, 6, 7, 12, 13, 14, 15, 16] rfl rfl rfl (va_runV (As := []) (rest := []) ⟨hx, hb, hml, hown, hts⟩ (c_X3_planned l D cI cS h sa p0 aa ab q0 b0 q1 q2 q3 p1 p2 p3 p4 old rd tr lf an pn gr kd pl wt al wo fi ni pa N M ha hN hM hMb) (cwV 0 hts gX3_mean_X3_planned rfl rfl rfl q_X3_planned ⟨Nat.le_of_ble_eq_true rfl, Nat.le_of_ble_eq_true rfl⟩) (kMV hK hP hD [0, 4, 5, 6, 7, 12, 13, 14, 15, 16] rfl rfl (va_recv hK.1 hP (ci := 3) (q0 := 0) rfl rfl) []) rfl rfl hl.1 rfl (lv_room (Nat.le_of_ble_eq_true rfl)) dX3_mean_38 ⟨Nat.zero_le _, Nat.zero_le _⟩) (fun H locs hP hD hS => ?_)
    refine lv_iload_n hx hb dX3_mean_41 rfl (lv_at hl 1 rfl) ?_
    refine kPi (va_runV (As := [.int se]) (rest := []) ⟨hx, hb, hml, hown, hts⟩ (c_X0_nightsOf l D cI cS p0 p1 p2 p3 p4 ((fX3_planned old an kd pl al wo fi ni pa N M).1) ((fX3_planned old an kd pl al wo fi ni pa N M).2.1) ((fX3_planned old an kd pl al wo fi ni pa N M).2.2.1) ((fX3_planned old an kd pl al wo fi ni pa N M).2.2.2.1) ((fX3_planned old an kd pl al wo fi ni pa N M).2.2.2.2.1) se) (cwV 1 hts gX3_mean_X0_nightsOf rfl rfl rfl q_X0_nightsOf ⟨Nat.le_of_ble_eq_true rfl, Nat.le_of_ble_eq_true rfl⟩) (kPV hK hP [12, 13, 14, 15, 16] rfl (va_recv hK.1 hP (ci := 0) (q0 := 12) rfl rfl) [.int se]) rfl rfl hl.1 rfl (lv_room (Nat.le_of_ble_eq_true rfl)) dX3_mean_42 ⟨Nat.zero_le _, Nat.zero_le _⟩) ?_
    refine lv_iload_n hx hb dX3_mean_45 rfl (lv_at hl 1 rfl) ?_
    refine kPi (va_runS (As := [.int se]) (rest := [.int (fX0_nightsOf ((fX3_planned old an kd pl al wo fi ni pa N M).2.2.2.1) se)]) ⟨hx, hb, hml, hown, hts⟩ (c_J6_bitCount_0f7a4 l D cI cS se) (va_cwS 1 hts gX3_mean_J6_bitCount_0f7a4 rfl rfl rfl q_J6_bitCount_0f7a4.2 ⟨Nat.le_of_ble_eq_true rfl, Nat.le_of_ble_eq_true rfl⟩) (kPS hK hP [] rfl [.int se]) rfl rfl hl.1 rfl (lv_room (Nat.le_of_ble_eq_true rfl)) dX3_mean_46 ⟨Nat.zero_le _, Nat.zero_le _⟩) ?_
    refine lv_iload_n hx hb dX3_mean_49 rfl (lv_at hl 2 rfl) ?_
    refine kPl (va_runS (As := [.int (fX0_nightsOf ((fX3_planned old an kd pl al wo fi ni pa N M).2.2.2.1) se), .int (fJ6_bitCount_0f7a4 se), .int wh]) (rest := []) ⟨hx, hb, hml, hown, hts⟩ (c_X3_shareNumber l D cI cS Bc (fX0_nightsOf ((fX3_planned old an kd pl al wo fi ni pa N M).2.2.2.1) se) (fJ6_bitCount_0f7a4 se) wh (hbc c18) hBc) (va_cwS 3 hts gX3_mean_X3_shareNumber rfl rfl rfl q_X3_shareNumber.2 ⟨Nat.le_of_ble_eq_true rfl, Nat.le_of_ble_eq_true rfl⟩) (kPS hK hP [] rfl [.int (fX0_nightsOf ((fX3_planned old an kd pl al wo fi ni pa N M).2.2.2.1) se), .int (fJ6_bitCount_0f7a4 se), .int wh]) rfl rfl hl.1 rfl (lv_room (Nat.le_of_ble_eq_true rfl)) dX3_mean_50 ⟨Nat.zero_le _, Nat.zero_le _⟩) ?_
    have hR4 : (fX3_mean old an kd pl al wo fi ni pa N M Bc se wh) = ((fX3_shareNumber Bc (fX0_nightsOf ((fX3_planned old an kd pl al wo fi ni pa N M).2.2.2.1) se) (fJ6_bitCount_0f7a4 se) wh), (fX3_planned old an kd pl al wo fi ni pa N M).1, (fX3_planned old an kd pl al wo fi ni pa N M).2.1, (fX3_planned old an kd pl al wo fi ni pa N M).2.2.1, (fX3_planned old an kd pl al wo fi ni pa N M).2.2.2.1, (fX3_planned old an kd pl al wo fi ni pa N M).2.2.2.2.1, (fX3_planned old an kd pl al wo fi ni pa N M).2.2.2.2.2) := (by unfold fX3_mean; rw [if_pos c4, if_neg c18, if_neg c22, if_neg c30])
    rw [hQ]
    exact W.lret (v := (fX3_shareNumber Bc (fX0_nightsOf ((fX3_planned old an kd pl al wo fi ni pa N M).2.2.2.1) se) (fJ6_bitCount_0f7a4 se) wh)) hx hb hr (fun t ht hW => ⟨⟨_, (), rfl, (by show _ = _; rw [hR4]), (by show va_P D vwCl _ t.heap; rw [hR4, ht]; exact hP)⟩, hS.F ht⟩) hS.2.2 dX3_mean_53
  refine lv_ldc2 hx hb hown (hts (.constantLong RX3 135 (-9223372036854775808)) (List.mem_of_getElem? (i := 2) rfl)) dX3_mean_33 ?_
  have hR5 : (fX3_mean old an kd pl al wo fi ni pa N M Bc se wh) = ((-9223372036854775808), al, wo, fi, ni, pa, old) := (by unfold fX3_mean; rw [if_pos c4, if_neg c18, if_neg c22, if_pos c30])
  rw [hQ]
  exact W.lret (v := (-9223372036854775808)) hx hb hr (fun t ht hW => ⟨⟨_, (), rfl, (by show _ = _; rw [hR5]), (by show va_P D vwCl _ t.heap; rw [hR5, ht]; exact hP)⟩, hS.F ht⟩) hS.2.2 dX3_mean_36

def aX3_parts_35 (v3_35 v4_35 : Int32) : Int32 := v3_35
def sX3_parts_35 (kd pl : Nat → Int32) (N : Nat) (x : Int32) (k35 : Nat) (v3_35 v4_35 : Int32) : (Int32 × Int32) := (if (fX3_has v4_35 (nI k35)) = 0 then (v3_35, v4_35) else ((v3_35 + 1), (v4_35 &&& ((fX1_alike kd pl N x (nI k35)) ^^^ (-1)))))
def fX3_parts (an : Int32) (kd pl : Nat → Int32) (N : Nat) (x se : Int32) : Int32 := (if (fX3_isAnswer an x) = 0 then (-1) else (if (fX3_isSetOf (fX1_answers an) se) = 0 then (-2) else (aX3_parts_35  ((lp (fun k a => sX3_parts_35 kd pl N x k a.1 a.2) (0, se) N).1) ((lp (fun k a => sX3_parts_35 kd pl N x k a.1 a.2) (0, se) N).2))))
theorem q_X3_parts : yX3_parts.cls = RX3 ∧ yX3_parts.cls ≠ "java/lang/invoke/MethodHandle" ∧ yX3_parts.cls ≠ "java/lang/invoke/VarHandle" ∧ (parseMethodDescriptor yX3_parts.desc).map (fun d => d.parameters.length) = some 2 := by decide +kernel
set_option maxHeartbeats 4000000 in
set_option maxRecDepth 100000 in
theorem c_X3_parts (l : Launch) (D : va_G) (cI cS : ClassId) (h sa p0 aa ab q0 q1 q2 q3 b0 b1 b2 b3 p1 p2 p3 p4 : Nat) (sf : Nat → Option Nat) (old rd tr lf : Int32) (ask shw : Nat → Int32) (an pn gr : Int32) (kd pl wt : Nat → Int32) (ban bpn bgr : Int32) (bkd bpl bwt al wo fi ni : Nat → Int32) (pa : Int32) (N : Nat) (x se : Int32) (ha : an = nI N) (hN : N ≤ 6) : PMi l yX3_parts wsX3_parts { frames := 3, cells := 0, slots := 0, locals := 69 } D cI cS (wL17 cI cS h sa p0 aa ab q0 b0 q0 q1 q2 q3 b0 b1 b2 b3 p1 p2 p3 p4 sf old rd tr lf ask shw an pn gr kd pl wt ban bpn bgr bkd bpl bwt al wo fi ni pa) [.ref h, .int x, .int se] (fX3_parts an kd pl N x se) := by
  refine kEnter (cc := cX3_parts) (maxL := 6) (ret := (some .int)) (by decide) rfl (Nat.le_of_ble_eq_true rfl) ?_
  intro p e s m below meth c ls Qf hQ hx hb hml hr hlocks hown hts hK hP hl
  have hown : s.vm.findClass RX3 = some m.cls := hown
  have hl : lv_has ls 6 [(0, .ref h), (1, .int x), (2, .int se)] := hl
  refine lv_aload_n hx hb dX3_parts_0 rfl (lv_at hl 0 rfl) ?_
  refine lv_iload_n hx hb dX3_parts_1 rfl (lv_at hl 1 rfl) ?_
  refine kPi (va_runV (As := [.int x]) (rest := []) ⟨hx, hb, hml, hown, hts⟩ (c_X3_isAnswer l D cI cS h sa p0 aa ab q0 b0 q1 q2 q3 old rd tr lf an pn gr kd pl wt x) (cwV 1 hts gX3_parts_X3_isAnswer rfl rfl rfl q_X3_isAnswer ⟨Nat.le_of_ble_eq_true rfl, Nat.le_of_ble_eq_true rfl⟩) (kPV hK hP [0, 4, 5, 6, 7] rfl (va_recv hK.1 hP (ci := 3) (q0 := 0) rfl rfl) [.int x]) rfl rfl hl.1 rfl (lv_room (Nat.le_of_ble_eq_true rfl)) dX3_parts_2 ⟨Nat.zero_le _, Nat.zero_le _⟩) ?_
  refine lv_if_ne (tgt := 10) hx hb dX3_parts_5 (by decide) (fun c5 => ?_) (fun c5 => ?_)
  · skip
    refine lv_aload_n hx hb dX3_parts_10 rfl (lv_at hl 0 rfl) ?_
    refine va_get (D := D) (ci := 3) (v := .ref q0) (C := RX3) (T := TX3) (N := 10) hx hb hts (fun _ h => List.mem_cons_of_mem _ (List.mem_append_left _ (List.mem_append_right _ h))) hown hK.1 hP 0 rfl rfl 4 (by decide) (hts (.fieldLink RX3 34 "LieNights" "secret" "LLieNights$Secret;") (List.mem_of_getElem? (i := 1) rfl)) (fun _ h9 => h9) rfl dX3_parts_11 ?_
    refine kPi (va_runV (As := []) (rest := []) ⟨hx, hb, hml, hown, hts⟩ (c_X1_answers l D cI cS q0 q1 q2 q3 an pn gr kd pl wt) (cwV 0 hts gX3_parts_X1_answers rfl rfl rfl q_X1_answers ⟨Nat.le_of_ble_eq_true rfl, Nat.le_of_ble_eq_true rfl⟩) (kPV hK hP [4, 5, 6, 7] rfl (va_recv hK.1 hP (ci := 1) (q0 := 4) rfl rfl) []) rfl rfl hl.1 rfl (lv_room (Nat.le_of_ble_eq_true rfl)) dX3_parts_14 ⟨Nat.zero_le _, Nat.zero_le _⟩) ?_
    refine lv_iload_n hx hb dX3_parts_17 rfl (lv_at hl 2 rfl) ?_
    refine kPi (va_runS (As := [.int (fX1_answers an), .int se]) (rest := []) ⟨hx, hb, hml, hown, hts⟩ (c_X3_isSetOf l D cI cS (fX1_answers an) se) (va_cwS 2 hts gX3_parts_X3_isSetOf rfl rfl rfl q_X3_isSetOf.2 ⟨Nat.le_of_ble_eq_true rfl, Nat.le_of_ble_eq_true rfl⟩) (kPS hK hP [] rfl [.int (fX1_answers an), .int se]) rfl rfl hl.1 rfl (lv_room (Nat.le_of_ble_eq_true rfl)) dX3_parts_18 ⟨Nat.zero_le _, Nat.zero_le _⟩) ?_
    refine lv_if_ne (tgt := 27) hx hb dX3_parts_21 (by decide) (fun c21 => ?_) (fun c21 => ?_)
    · skip
      refine lv_iconst (v := 0) hx hb dX3_parts_27 (by decide) ?_
      refine lv_istore_n (lv' := [(3, .int 0), (0, .ref h), (1, .int x), (2, .int se)]) hx hb dX3_parts_28 rfl hl (by decide) rfl (fun ls hl => ?_)
      refine lv_iload_n hx hb dX3_parts_29 rfl (lv_at hl 3 rfl) ?_
      refine lv_istore (lv' := [(4, .int se), (3, .int 0), (0, .ref h), (1, .int x), (2, .int se)]) hx hb dX3_parts_30 hl (by decide) rfl (fun ls hl => ?_)
      refine lv_iconst (v := 0) hx hb dX3_parts_32 (by decide) ?_
      refine lv_istore (lv' := [(5, .int 0), (4, .int se), (3, .int 0), (0, .ref h), (1, .int x), (2, .int se)]) hx hb dX3_parts_33 hl (by decide) rfl (fun ls hl => ?_)
      have hR1 : (fX3_parts an kd pl N x se) = (aX3_parts_35  ((lp (fun k a => sX3_parts_35 kd pl N x k a.1 a.2) (0, se) N).1) ((lp (fun k a => sX3_parts_35 kd pl N x k a.1 a.2) (0, se) N).2)) := (by unfold fX3_parts; rw [if_neg c5, if_neg c21])
      have loop35 : ∀ (n k35 : Nat), k35 ≤ N → N + 1 ≤ k35 + n → ∀ (v3_35 : Int32) (v4_35 : Int32), lp (fun k a => sX3_parts_35 kd pl N x k a.1 a.2) (0, se) k35 = (v3_35, v4_35) →  ∀ (ls : Array Slot), lv_has ls 6 [(0, .ref h), (1, .int x), (2, .int se), (3, .int v3_35), (4, .int v4_35), (5, .int (nI k35))] → W p l e { frames := 3, cells := 0, slots := 0, locals := 69 } s m ([.ref h, .int x, .int se] : List Value).toArray below meth c s.heap [] 0 0 Qf (F0 m 35 ls []) := by
        intro n
        induction n with
        | zero => intro k35 h1 h2; exact absurd h2 (by omega)
        | succ n ih =>
          intro k35 hk35 hn35 v3_35 v4_35 hacc35  ls hl
          have ih35 := ih
          refine lv_iload hx hb dX3_parts_35 (lv_at hl 5 rfl) ?_
          refine lv_aload_n hx hb dX3_parts_37 rfl (lv_at hl 0 rfl) ?_
          refine va_get (D := D) (ci := 3) (v := .ref q0) (C := RX3) (T := TX3) (N := 10) hx hb hts (fun _ h => List.mem_cons_of_mem _ (List.mem_append_left _ (List.mem_append_right _ h))) hown hK.1 hP 0 rfl rfl 4 (by decide) (hts (.fieldLink RX3 34 "LieNights" "secret" "LLieNights$Secret;") (List.mem_of_getElem? (i := 1) rfl)) (fun _ h9 => h9) rfl dX3_parts_38 ?_
          refine kPi (va_runV (As := []) (rest := [.int (nI k35)]) ⟨hx, hb, hml, hown, hts⟩ (c_X1_answers l D cI cS q0 q1 q2 q3 an pn gr kd pl wt) (cwV 0 hts gX3_parts_X1_answers rfl rfl rfl q_X1_answers ⟨Nat.le_of_ble_eq_true rfl, Nat.le_of_ble_eq_true rfl⟩) (kPV hK hP [4, 5, 6, 7] rfl (va_recv hK.1 hP (ci := 1) (q0 := 4) rfl rfl) []) rfl rfl hl.1 rfl (lv_room (Nat.le_of_ble_eq_true rfl)) dX3_parts_41 ⟨Nat.zero_le _, Nat.zero_le _⟩) ?_
          refine lv_icmp_ge (tgt := 83) hx hb dX3_parts_44 (by decide) (fun c44 => ?_) (fun c44 => ?_)
          · skip
            have hkN : k35 = N := (kEnd hk35 rfl ha (by omega) c44)
            rw [hkN] at hacc35
            have hR2 : (fX3_parts an kd pl N x se) = aX3_parts_35  v3_35 v4_35 := hR1.trans (lp_end (x := (v3_35, v4_35)) (g := (fun a => aX3_parts_35  a.1 a.2)) hacc35)
            refine lv_iload_n hx hb dX3_parts_83 rfl (lv_at hl 3 rfl) ?_
            have hR3 : (fX3_parts an kd pl N x se) = v3_35 := hR2.trans rfl
            rw [hQ]
            exact W.iret (v := v3_35) hx hb hr (fun t ht hW => ⟨_, rfl, hR3.symm, ht⟩) (fun q h => by cases h) dX3_parts_84
          have hlt35 : k35 < N := (kLt hk35 rfl ha c44)
          refine lv_iload hx hb dX3_parts_47 (lv_at hl 4 rfl) ?_
          refine lv_iload hx hb dX3_parts_49 (lv_at hl 5 rfl) ?_
          refine kPi (va_runS (As := [.int v4_35, .int (nI k35)]) (rest := []) ⟨hx, hb, hml, hown, hts⟩ (c_X3_has l D cI cS v4_35 (nI k35)) (va_cwS 2 hts gX3_parts_X3_has rfl rfl rfl q_X3_has.2 ⟨Nat.le_of_ble_eq_true rfl, Nat.le_of_ble_eq_true rfl⟩) (kPS hK hP [] rfl [.int v4_35, .int (nI k35)]) rfl rfl hl.1 rfl (lv_room (Nat.le_of_ble_eq_true rfl)) dX3_parts_51 ⟨Nat.zero_le _, Nat.zero_le _⟩) ?_
          refine lv_if_eq (tgt := 77) hx hb dX3_parts_54 (by decide) (fun c54 => ?_) (fun c54 => ?_)
          · skip
            refine lv_iinc (v := (nI (k35 + 1))) (lv' := [(5, .int (nI (k35 + 1))), (0, .ref h), (1, .int x), (2, .int se), (3, .int v3_35), (4, .int v4_35)]) hx hb dX3_parts_77 hl (k := 5) rfl (nI_1 (k35)) (by decide) rfl (fun ls hl => ?_)
            refine lv_goto (tgt := 35) hx hb dX3_parts_80 (by decide) ?_
            have hR4 : sX3_parts_35 kd pl N x k35 v3_35 v4_35 = (v3_35, v4_35) := (by unfold sX3_parts_35; rw [if_pos c54])
            exact ih35 (k35 + 1) hlt35 (by omega) _ _ (lp_next hacc35 hR4)  ls (lv_sub hl [1, 2, 3, 4, 5, 0] rfl)
          refine lv_iload hx hb dX3_parts_57 (lv_at hl 4 rfl) ?_
          refine lv_aload_n hx hb dX3_parts_59 rfl (lv_at hl 0 rfl) ?_
          refine va_get (D := D) (ci := 3) (v := .ref q0) (C := RX3) (T := TX3) (N := 10) hx hb hts (fun _ h => List.mem_cons_of_mem _ (List.mem_append_left _ (List.mem_append_right _ h))) hown hK.1 hP 0 rfl rfl 4 (by decide) (hts (.fieldLink RX3 34 "LieNights" "secret" "LLieNights$Secret;") (List.mem_of_getElem? (i := 1) rfl)) (fun _ h9 => h9) rfl dX3_parts_60 ?_
          refine lv_iload_n hx hb dX3_parts_63 rfl (lv_at hl 1 rfl) ?_
          refine lv_iload hx hb dX3_parts_64 (lv_at hl 5 rfl) ?_
          refine kPi (va_runV (As := [.int x, .int (nI k35)]) (rest := [.int v4_35]) ⟨hx, hb, hml, hown, hts⟩ (c_X1_alike l D cI cS q0 q1 q2 q3 an pn gr kd pl wt N x (nI k35) ha hN) (cwV 2 hts gX3_parts_X1_alike rfl rfl rfl q_X1_alike ⟨Nat.le_of_ble_eq_true rfl, Nat.le_of_ble_eq_true rfl⟩) (kPV hK hP [4, 5, 6, 7] rfl (va_recv hK.1 hP (ci := 1) (q0 := 4) rfl rfl) [.int x, .int (nI k35)]) rfl rfl hl.1 rfl (lv_room (Nat.le_of_ble_eq_true rfl)) dX3_parts_66 ⟨Nat.zero_le _, Nat.zero_le _⟩) ?_
          refine lv_iconst (v := (-1)) hx hb dX3_parts_69 (by decide) ?_
          refine lv_ixor hx hb dX3_parts_70 ?_
          refine lv_iand hx hb dX3_parts_71 ?_
          refine lv_istore (lv' := [(4, .int (v4_35 &&& ((fX1_alike kd pl N x (nI k35)) ^^^ (-1)))), (0, .ref h), (1, .int x), (2, .int se), (3, .int v3_35), (5, .int (nI k35))]) hx hb dX3_parts_72 hl (by decide) rfl (fun ls hl => ?_)
          refine lv_iinc (v := (v3_35 + 1)) (lv' := [(3, .int (v3_35 + 1)), (4, .int (v4_35 &&& ((fX1_alike kd pl N x (nI k35)) ^^^ (-1)))), (0, .ref h), (1, .int x), (2, .int se), (5, .int (nI k35))]) hx hb dX3_parts_74 hl (k := 4) rfl rfl (by decide) rfl (fun ls hl => ?_)
          refine lv_iinc (v := (nI (k35 + 1))) (lv' := [(5, .int (nI (k35 + 1))), (3, .int (v3_35 + 1)), (4, .int (v4_35 &&& ((fX1_alike kd pl N x (nI k35)) ^^^ (-1)))), (0, .ref h), (1, .int x), (2, .int se)]) hx hb dX3_parts_77 hl (k := 5) rfl (nI_1 (k35)) (by decide) rfl (fun ls hl => ?_)
          refine lv_goto (tgt := 35) hx hb dX3_parts_80 (by decide) ?_
          have hR5 : sX3_parts_35 kd pl N x k35 v3_35 v4_35 = ((v3_35 + 1), (v4_35 &&& ((fX1_alike kd pl N x (nI k35)) ^^^ (-1)))) := (by unfold sX3_parts_35; rw [if_neg c54])
          exact ih35 (k35 + 1) hlt35 (by omega) _ _ (lp_next hacc35 hR5)  ls (lv_sub hl [3, 4, 5, 1, 2, 0] rfl)
      exact loop35 (N + 1) 0 (Nat.zero_le _) (by omega) _ _ rfl  ls (lv_sub hl [3, 4, 5, 2, 1, 0] rfl)
    refine lv_bipush (v := (-2)) hx hb dX3_parts_24 (by decide) ?_
    have hR6 : (fX3_parts an kd pl N x se) = (-2) := (by unfold fX3_parts; rw [if_neg c5, if_pos c21])
    rw [hQ]
    exact W.iret (v := (-2)) hx hb hr (fun t ht hW => ⟨_, rfl, hR6.symm, ht⟩) (fun q h => by cases h) dX3_parts_26
  refine lv_iconst (v := (-1)) hx hb dX3_parts_8 (by decide) ?_
  have hR7 : (fX3_parts an kd pl N x se) = (-1) := (by unfold fX3_parts; rw [if_pos c5])
  rw [hQ]
  exact W.iret (v := (-1)) hx hb hr (fun t ht hW => ⟨_, rfl, hR7.symm, ht⟩) (fun q h => by cases h) dX3_parts_9

def aX3_months_69 (z_69 : Unit) : Int32 := (-9)
def sX3_months_69 (gr v2_31 : Int32) (k69 : Nat) (z_69 : Unit) : (Unit) ⊕ Int32 := (if ((fX1_growth gr) * (nI k69)) < v2_31 then (.inl ()) else (.inr (nI k69)))
def aX3_months_31 (gr v2_31 : Int32) : Int32 := (lqr (lq (fun k a => sX3_months_69 gr v2_31 k a) () 100) (fun a => aX3_months_69  a))
def sX3_months_31 (wt : Nat → Int32) (se : Int32) (k31 : Nat) (v2_31 : Int32) : (Int32) := (if (fX3_has se (nI k31)) = 0 then v2_31 else (v2_31 + (fX1_weightOf wt (nI k31))))
def fX3_months (an pn gr : Int32) (wt : Nat → Int32) (Pn : Nat) (se : Int32) : Int32 := (if (fX3_noSecret an) = 0 then (if (fX3_isSetOf (fX1_pillars pn) se) = 0 then (-2) else (aX3_months_31 gr (lp (fun k a => sX3_months_31 wt se k a) 0 Pn))) else (-3))
theorem q_X3_months : yX3_months.cls = RX3 ∧ yX3_months.cls ≠ "java/lang/invoke/MethodHandle" ∧ yX3_months.cls ≠ "java/lang/invoke/VarHandle" ∧ (parseMethodDescriptor yX3_months.desc).map (fun d => d.parameters.length) = some 1 := by decide +kernel
set_option maxHeartbeats 4000000 in
set_option maxRecDepth 100000 in
theorem c_X3_months (l : Launch) (D : va_G) (cI cS : ClassId) (h sa p0 aa ab q0 q1 q2 q3 b0 b1 b2 b3 p1 p2 p3 p4 : Nat) (sf : Nat → Option Nat) (old rd tr lf : Int32) (ask shw : Nat → Int32) (an pn gr : Int32) (kd pl wt : Nat → Int32) (ban bpn bgr : Int32) (bkd bpl bwt al wo fi ni : Nat → Int32) (pa : Int32) (Pn : Nat) (se : Int32) (hpn : pn = nI Pn) (hPn : Pn ≤ 5) : PMi l yX3_months wsX3_months { frames := 2, cells := 0, slots := 0, locals := 42 } D cI cS (wL17 cI cS h sa p0 aa ab q0 b0 q0 q1 q2 q3 b0 b1 b2 b3 p1 p2 p3 p4 sf old rd tr lf ask shw an pn gr kd pl wt ban bpn bgr bkd bpl bwt al wo fi ni pa) [.ref h, .int se] (fX3_months an pn gr wt Pn se) := by
  refine kEnter (cc := cX3_months) (maxL := 4) (ret := (some .int)) (by decide) rfl (Nat.le_of_ble_eq_true rfl) ?_
  intro p e s m below meth c ls Qf hQ hx hb hml hr hlocks hown hts hK hP hl
  have hown : s.vm.findClass RX3 = some m.cls := hown
  have hl : lv_has ls 4 [(0, .ref h), (1, .int se)] := hl
  refine lv_aload_n hx hb dX3_months_0 rfl (lv_at hl 0 rfl) ?_
  refine kPi (va_runV (As := []) (rest := []) ⟨hx, hb, hml, hown, hts⟩ (c_X3_noSecret l D cI cS h sa p0 aa ab q0 b0 q1 q2 q3 old rd tr lf an pn gr kd pl wt) (cwV 0 hts gX3_months_X3_noSecret rfl rfl rfl q_X3_noSecret ⟨Nat.le_of_ble_eq_true rfl, Nat.le_of_ble_eq_true rfl⟩) (kPV hK hP [0, 4, 5, 6, 7] rfl (va_recv hK.1 hP (ci := 3) (q0 := 0) rfl rfl) []) rfl rfl hl.1 rfl (lv_room (Nat.le_of_ble_eq_true rfl)) dX3_months_1 ⟨Nat.zero_le _, Nat.zero_le _⟩) ?_
  refine lv_if_eq (tgt := 10) hx hb dX3_months_4 (by decide) (fun c4 => ?_) (fun c4 => ?_)
  · skip
    refine lv_aload_n hx hb dX3_months_10 rfl (lv_at hl 0 rfl) ?_
    refine va_get (D := D) (ci := 3) (v := .ref q0) (C := RX3) (T := TX3) (N := 10) hx hb hts (fun _ h => List.mem_cons_of_mem _ (List.mem_append_left _ (List.mem_append_right _ h))) hown hK.1 hP 0 rfl rfl 4 (by decide) (hts (.fieldLink RX3 34 "LieNights" "secret" "LLieNights$Secret;") (List.mem_of_getElem? (i := 1) rfl)) (fun _ h9 => h9) rfl dX3_months_11 ?_
    refine kPi (va_runV (As := []) (rest := []) ⟨hx, hb, hml, hown, hts⟩ (c_X1_pillars l D cI cS q0 q1 q2 q3 an pn gr kd pl wt) (cwV 0 hts gX3_months_X1_pillars rfl rfl rfl q_X1_pillars ⟨Nat.le_of_ble_eq_true rfl, Nat.le_of_ble_eq_true rfl⟩) (kPV hK hP [4, 5, 6, 7] rfl (va_recv hK.1 hP (ci := 1) (q0 := 4) rfl rfl) []) rfl rfl hl.1 rfl (lv_room (Nat.le_of_ble_eq_true rfl)) dX3_months_14 ⟨Nat.zero_le _, Nat.zero_le _⟩) ?_
    refine lv_iload_n hx hb dX3_months_17 rfl (lv_at hl 1 rfl) ?_
    refine kPi (va_runS (As := [.int (fX1_pillars pn), .int se]) (rest := []) ⟨hx, hb, hml, hown, hts⟩ (c_X3_isSetOf l D cI cS (fX1_pillars pn) se) (va_cwS 2 hts gX3_months_X3_isSetOf rfl rfl rfl q_X3_isSetOf.2 ⟨Nat.le_of_ble_eq_true rfl, Nat.le_of_ble_eq_true rfl⟩) (kPS hK hP [] rfl [.int (fX1_pillars pn), .int se]) rfl rfl hl.1 rfl (lv_room (Nat.le_of_ble_eq_true rfl)) dX3_months_18 ⟨Nat.zero_le _, Nat.zero_le _⟩) ?_
    refine lv_if_ne (tgt := 27) hx hb dX3_months_21 (by decide) (fun c21 => ?_) (fun c21 => ?_)
    · skip
      refine lv_iconst (v := 0) hx hb dX3_months_27 (by decide) ?_
      refine lv_istore_n (lv' := [(2, .int 0), (0, .ref h), (1, .int se)]) hx hb dX3_months_28 rfl hl (by decide) rfl (fun ls hl => ?_)
      refine lv_iconst (v := 0) hx hb dX3_months_29 (by decide) ?_
      refine lv_istore_n (lv' := [(3, .int 0), (2, .int 0), (0, .ref h), (1, .int se)]) hx hb dX3_months_30 rfl hl (by decide) rfl (fun ls hl => ?_)
      have hR1 : (fX3_months an pn gr wt Pn se) = (aX3_months_31 gr (lp (fun k a => sX3_months_31 wt se k a) 0 Pn)) := (by unfold fX3_months; rw [if_pos c4, if_neg c21])
      have loop31 : ∀ (n k31 : Nat), k31 ≤ Pn → Pn + 1 ≤ k31 + n → ∀ (v2_31 : Int32), lp (fun k a => sX3_months_31 wt se k a) 0 k31 = v2_31 →  ∀ (ls : Array Slot), lv_has ls 4 [(0, .ref h), (1, .int se), (2, .int v2_31), (3, .int (nI k31))] → W p l e { frames := 2, cells := 0, slots := 0, locals := 42 } s m ([.ref h, .int se] : List Value).toArray below meth c s.heap [] 0 0 Qf (F0 m 31 ls []) := by
        intro n
        induction n with
        | zero => intro k31 h1 h2; exact absurd h2 (by omega)
        | succ n ih =>
          intro k31 hk31 hn31 v2_31 hacc31  ls hl
          have ih31 := ih
          refine lv_iload_n hx hb dX3_months_31 rfl (lv_at hl 3 rfl) ?_
          refine lv_aload_n hx hb dX3_months_32 rfl (lv_at hl 0 rfl) ?_
          refine va_get (D := D) (ci := 3) (v := .ref q0) (C := RX3) (T := TX3) (N := 10) hx hb hts (fun _ h => List.mem_cons_of_mem _ (List.mem_append_left _ (List.mem_append_right _ h))) hown hK.1 hP 0 rfl rfl 4 (by decide) (hts (.fieldLink RX3 34 "LieNights" "secret" "LLieNights$Secret;") (List.mem_of_getElem? (i := 1) rfl)) (fun _ h9 => h9) rfl dX3_months_33 ?_
          refine kPi (va_runV (As := []) (rest := [.int (nI k31)]) ⟨hx, hb, hml, hown, hts⟩ (c_X1_pillars l D cI cS q0 q1 q2 q3 an pn gr kd pl wt) (cwV 0 hts gX3_months_X1_pillars rfl rfl rfl q_X1_pillars ⟨Nat.le_of_ble_eq_true rfl, Nat.le_of_ble_eq_true rfl⟩) (kPV hK hP [4, 5, 6, 7] rfl (va_recv hK.1 hP (ci := 1) (q0 := 4) rfl rfl) []) rfl rfl hl.1 rfl (lv_room (Nat.le_of_ble_eq_true rfl)) dX3_months_36 ⟨Nat.zero_le _, Nat.zero_le _⟩) ?_
          refine lv_icmp_ge (tgt := 67) hx hb dX3_months_39 (by decide) (fun c39 => ?_) (fun c39 => ?_)
          · skip
            have hkN : k31 = Pn := (kEnd hk31 rfl hpn (by omega) c39)
            rw [hkN] at hacc31
            have hR2 : (fX3_months an pn gr wt Pn se) = aX3_months_31 gr v2_31 := hR1.trans (lp_end (x := v2_31) (g := (fun a => aX3_months_31 gr a)) hacc31)
            refine lv_iconst (v := 0) hx hb dX3_months_67 (by decide) ?_
            refine lv_istore_n (lv' := [(3, .int 0), (0, .ref h), (1, .int se), (2, .int v2_31)]) hx hb dX3_months_68 rfl hl (by decide) rfl (fun ls hl => ?_)
            have hR3 : (fX3_months an pn gr wt Pn se) = (lqr (lq (fun k a => sX3_months_69 gr v2_31 k a) () 100) (fun a => aX3_months_69  a)) := hR2.trans rfl
            have loop69 : ∀ (n k69 : Nat), k69 ≤ 100 → 100 + 1 ≤ k69 + n → ∀ (z_69 : Unit), lq (fun k a => sX3_months_69 gr v2_31 k a) () k69 = Sum.inl z_69 →  ∀ (ls : Array Slot), lv_has ls 4 [(0, .ref h), (1, .int se), (2, .int v2_31), (3, .int (nI k69))] → W p l e { frames := 2, cells := 0, slots := 0, locals := 42 } s m ([.ref h, .int se] : List Value).toArray below meth c s.heap [] 0 0 Qf (F0 m 69 ls []) := by
              intro n
              induction n with
              | zero => intro k69 h1 h2; exact absurd h2 (by omega)
              | succ n ih =>
                intro k69 hk69 hn69 z_69 hacc69  ls hl
                have ih69 := ih
                refine lv_iload_n hx hb dX3_months_69 rfl (lv_at hl 3 rfl) ?_
                refine lv_bipush (v := 99) hx hb dX3_months_70 (by decide) ?_
                refine lv_icmp_gt (tgt := 96) hx hb dX3_months_72 (by decide) (fun c72 => ?_) (fun c72 => ?_)
                · skip
                  have hkN : k69 = 100 := (kEndG (N := 99) hk69 rfl rfl (by omega) c72)
                  rw [hkN] at hacc69
                  have hR4 : (fX3_months an pn gr wt Pn se) = aX3_months_69  z_69 := hR3.trans (lq_end (x := z_69) (g := (fun a => aX3_months_69  a)) hacc69)
                  refine lv_bipush (v := (-9)) hx hb dX3_months_96 (by decide) ?_
                  have hR5 : (fX3_months an pn gr wt Pn se) = (-9) := hR4.trans rfl
                  rw [hQ]
                  exact W.iret (v := (-9)) hx hb hr (fun t ht hW => ⟨_, rfl, hR5.symm, ht⟩) (fun q h => by cases h) dX3_months_98
                have hlt69 : k69 < 100 := (kLtG (N := 99) hk69 rfl rfl (by omega) c72)
                refine lv_aload_n hx hb dX3_months_75 rfl (lv_at hl 0 rfl) ?_
                refine va_get (D := D) (ci := 3) (v := .ref q0) (C := RX3) (T := TX3) (N := 10) hx hb hts (fun _ h => List.mem_cons_of_mem _ (List.mem_append_left _ (List.mem_append_right _ h))) hown hK.1 hP 0 rfl rfl 4 (by decide) (hts (.fieldLink RX3 34 "LieNights" "secret" "LLieNights$Secret;") (List.mem_of_getElem? (i := 1) rfl)) (fun _ h9 => h9) rfl dX3_months_76 ?_
                refine kPi (va_runV (As := []) (rest := []) ⟨hx, hb, hml, hown, hts⟩ (c_X1_growth l D cI cS q0 q1 q2 q3 an pn gr kd pl wt) (cwV 0 hts gX3_months_X1_growth rfl rfl rfl q_X1_growth ⟨Nat.le_of_ble_eq_true rfl, Nat.le_of_ble_eq_true rfl⟩) (kPV hK hP [4, 5, 6, 7] rfl (va_recv hK.1 hP (ci := 1) (q0 := 4) rfl rfl) []) rfl rfl hl.1 rfl (lv_room (Nat.le_of_ble_eq_true rfl)) dX3_months_79 ⟨Nat.zero_le _, Nat.zero_le _⟩) ?_
                refine lv_iload_n hx hb dX3_months_82 rfl (lv_at hl 3 rfl) ?_
                refine lv_imul hx hb dX3_months_83 ?_
                refine lv_iload_n hx hb dX3_months_84 rfl (lv_at hl 2 rfl) ?_
                refine lv_icmp_lt (tgt := 90) hx hb dX3_months_85 (by decide) (fun c85 => ?_) (fun c85 => ?_)
                · skip
                  refine lv_iinc (v := (nI (k69 + 1))) (lv' := [(3, .int (nI (k69 + 1))), (0, .ref h), (1, .int se), (2, .int v2_31)]) hx hb dX3_months_90 hl (k := 3) rfl (nI_1 (k69)) (by decide) rfl (fun ls hl => ?_)
                  refine lv_goto (tgt := 69) hx hb dX3_months_93 (by decide) ?_
                  have hR6 : sX3_months_69 gr v2_31 k69 z_69 = (.inl ()) := (by unfold sX3_months_69; rw [if_pos c85])
                  exact ih69 (k69 + 1) hlt69 (by omega) _ (lq_next hacc69 hR6)  ls (lv_sub hl [1, 2, 3, 0] rfl)
                refine lv_iload_n hx hb dX3_months_88 rfl (lv_at hl 3 rfl) ?_
                have hR7 : sX3_months_69 gr v2_31 k69 z_69 = (.inr (nI k69)) := (by unfold sX3_months_69; rw [if_neg c85])
                have hR8 : (fX3_months an pn gr wt Pn se) = (nI k69) := hR3.trans (lq_exit hacc69 hR7 hlt69)
                rw [hQ]
                exact W.iret (v := (nI k69)) hx hb hr (fun t ht hW => ⟨_, rfl, hR8.symm, ht⟩) (fun q h => by cases h) dX3_months_89
            exact loop69 (100 + 1) 0 (Nat.zero_le _) (by omega) _ rfl  ls (lv_sub hl [1, 2, 3, 0] rfl)
          have hlt31 : k31 < Pn := (kLt hk31 rfl hpn c39)
          refine lv_iload_n hx hb dX3_months_42 rfl (lv_at hl 1 rfl) ?_
          refine lv_iload_n hx hb dX3_months_43 rfl (lv_at hl 3 rfl) ?_
          refine kPi (va_runS (As := [.int se, .int (nI k31)]) (rest := []) ⟨hx, hb, hml, hown, hts⟩ (c_X3_has l D cI cS se (nI k31)) (va_cwS 2 hts gX3_months_X3_has rfl rfl rfl q_X3_has.2 ⟨Nat.le_of_ble_eq_true rfl, Nat.le_of_ble_eq_true rfl⟩) (kPS hK hP [] rfl [.int se, .int (nI k31)]) rfl rfl hl.1 rfl (lv_room (Nat.le_of_ble_eq_true rfl)) dX3_months_44 ⟨Nat.zero_le _, Nat.zero_le _⟩) ?_
          refine lv_if_eq (tgt := 61) hx hb dX3_months_47 (by decide) (fun c47 => ?_) (fun c47 => ?_)
          · skip
            refine lv_iinc (v := (nI (k31 + 1))) (lv' := [(3, .int (nI (k31 + 1))), (0, .ref h), (1, .int se), (2, .int v2_31)]) hx hb dX3_months_61 hl (k := 3) rfl (nI_1 (k31)) (by decide) rfl (fun ls hl => ?_)
            refine lv_goto (tgt := 31) hx hb dX3_months_64 (by decide) ?_
            have hR9 : sX3_months_31 wt se k31 v2_31 = v2_31 := (by unfold sX3_months_31; rw [if_pos c47])
            exact ih31 (k31 + 1) hlt31 (by omega) _ (lp_next hacc31 hR9)  ls (lv_sub hl [1, 2, 3, 0] rfl)
          refine lv_iload_n hx hb dX3_months_50 rfl (lv_at hl 2 rfl) ?_
          refine lv_aload_n hx hb dX3_months_51 rfl (lv_at hl 0 rfl) ?_
          refine va_get (D := D) (ci := 3) (v := .ref q0) (C := RX3) (T := TX3) (N := 10) hx hb hts (fun _ h => List.mem_cons_of_mem _ (List.mem_append_left _ (List.mem_append_right _ h))) hown hK.1 hP 0 rfl rfl 4 (by decide) (hts (.fieldLink RX3 34 "LieNights" "secret" "LLieNights$Secret;") (List.mem_of_getElem? (i := 1) rfl)) (fun _ h9 => h9) rfl dX3_months_52 ?_
          refine lv_iload_n hx hb dX3_months_55 rfl (lv_at hl 3 rfl) ?_
          refine kPi (va_runV (As := [.int (nI k31)]) (rest := [.int v2_31]) ⟨hx, hb, hml, hown, hts⟩ (c_X1_weightOf l D cI cS q0 q1 q2 q3 an pn gr kd pl wt (nI k31)) (cwV 1 hts gX3_months_X1_weightOf rfl rfl rfl q_X1_weightOf ⟨Nat.le_of_ble_eq_true rfl, Nat.le_of_ble_eq_true rfl⟩) (kPV hK hP [4, 5, 6, 7] rfl (va_recv hK.1 hP (ci := 1) (q0 := 4) rfl rfl) [.int (nI k31)]) rfl rfl hl.1 rfl (lv_room (Nat.le_of_ble_eq_true rfl)) dX3_months_56 ⟨Nat.zero_le _, Nat.zero_le _⟩) ?_
          refine lv_iadd hx hb dX3_months_59 ?_
          refine lv_istore_n (lv' := [(2, .int (v2_31 + (fX1_weightOf wt (nI k31)))), (0, .ref h), (1, .int se), (3, .int (nI k31))]) hx hb dX3_months_60 rfl hl (by decide) rfl (fun ls hl => ?_)
          refine lv_iinc (v := (nI (k31 + 1))) (lv' := [(3, .int (nI (k31 + 1))), (2, .int (v2_31 + (fX1_weightOf wt (nI k31)))), (0, .ref h), (1, .int se)]) hx hb dX3_months_61 hl (k := 3) rfl (nI_1 (k31)) (by decide) rfl (fun ls hl => ?_)
          refine lv_goto (tgt := 31) hx hb dX3_months_64 (by decide) ?_
          have hR10 : sX3_months_31 wt se k31 v2_31 = (v2_31 + (fX1_weightOf wt (nI k31))) := (by unfold sX3_months_31; rw [if_neg c47])
          exact ih31 (k31 + 1) hlt31 (by omega) _ (lp_next hacc31 hR10)  ls (lv_sub hl [2, 3, 1, 0] rfl)
      exact loop31 (Pn + 1) 0 (Nat.zero_le _) (by omega) _ rfl  ls (lv_sub hl [2, 3, 1, 0] rfl)
    refine lv_bipush (v := (-2)) hx hb dX3_months_24 (by decide) ?_
    have hR11 : (fX3_months an pn gr wt Pn se) = (-2) := (by unfold fX3_months; rw [if_pos c4, if_pos c21])
    rw [hQ]
    exact W.iret (v := (-2)) hx hb hr (fun t ht hW => ⟨_, rfl, hR11.symm, ht⟩) (fun q h => by cases h) dX3_months_26
  refine lv_bipush (v := (-3)) hx hb dX3_months_7 (by decide) ?_
  have hR12 : (fX3_months an pn gr wt Pn se) = (-3) := (by unfold fX3_months; rw [if_neg c4])
  rw [hQ]
  exact W.iret (v := (-3)) hx hb hr (fun t ht hW => ⟨_, rfl, hR12.symm, ht⟩) (fun q h => by cases h) dX3_months_9

def aX3_down_41 (v3_41 v4_41 : Int32) : Int32 := v4_41
def aX3_down_59 (v3_59 v4_59 : Int32) : (Int32 × Int32) := (v3_59, v4_59)
def sX3_down_59 (gr : Int32) (wt : Nat → Int32) (mo : Int32) (k41 k59 : Nat) (v3_59 v4_59 : Int32) : (Int32 × Int32) := (if (((fX1_growth gr) * mo) : Int32) < ((fX1_weightOf wt (nI k41)) + (fX1_weightOf wt (nI (k41 + 1 + k59)))) then (v3_59, v4_59) else (if ((fX1_weightOf wt (nI k41)) + (fX1_weightOf wt (nI (k41 + 1 + k59)))) ≤ v3_59 then (v3_59, v4_59) else (((fX1_weightOf wt (nI k41)) + (fX1_weightOf wt (nI (k41 + 1 + k59)))), ((10 * (nI k41)) + (nI (k41 + 1 + k59))))))
def sX3_down_41 (gr : Int32) (wt : Nat → Int32) (Pn : Nat) (mo : Int32) (k41 : Nat) (v3_41 v4_41 : Int32) : (Int32 × Int32) := (aX3_down_59  ((lp (fun k a => sX3_down_59 gr wt mo k41 k a.1 a.2) (v3_41, v4_41) (Pn - (k41 + 1))).1) ((lp (fun k a => sX3_down_59 gr wt mo k41 k a.1 a.2) (v3_41, v4_41) (Pn - (k41 + 1))).2))
def fX3_down (an gr : Int32) (wt : Nat → Int32) (Pn : Nat) (mo : Int32) : Int32 := (if (fX3_noSecret an) = 0 then (if (fX3_within mo 99) = 0 then (-2) else (aX3_down_41  ((lp (fun k a => sX3_down_41 gr wt Pn mo k a.1 a.2) (0, (-9)) Pn).1) ((lp (fun k a => sX3_down_41 gr wt Pn mo k a.1 a.2) (0, (-9)) Pn).2))) else (-3))
theorem q_X3_down : yX3_down.cls = RX3 ∧ yX3_down.cls ≠ "java/lang/invoke/MethodHandle" ∧ yX3_down.cls ≠ "java/lang/invoke/VarHandle" ∧ (parseMethodDescriptor yX3_down.desc).map (fun d => d.parameters.length) = some 1 := by decide +kernel
set_option maxHeartbeats 4000000 in
set_option maxRecDepth 100000 in
theorem c_X3_down (l : Launch) (D : va_G) (cI cS : ClassId) (h sa p0 aa ab q0 q1 q2 q3 b0 b1 b2 b3 p1 p2 p3 p4 : Nat) (sf : Nat → Option Nat) (old rd tr lf : Int32) (ask shw : Nat → Int32) (an pn gr : Int32) (kd pl wt : Nat → Int32) (ban bpn bgr : Int32) (bkd bpl bwt al wo fi ni : Nat → Int32) (pa : Int32) (Pn : Nat) (mo : Int32) (hpn : pn = nI Pn) (hPn : Pn ≤ 5) : PMi l yX3_down wsX3_down { frames := 2, cells := 0, slots := 0, locals := 42 } D cI cS (wL17 cI cS h sa p0 aa ab q0 b0 q0 q1 q2 q3 b0 b1 b2 b3 p1 p2 p3 p4 sf old rd tr lf ask shw an pn gr kd pl wt ban bpn bgr bkd bpl bwt al wo fi ni pa) [.ref h, .int mo] (fX3_down an gr wt Pn mo) := by
  refine kEnter (cc := cX3_down) (maxL := 8) (ret := (some .int)) (by decide) rfl (Nat.le_of_ble_eq_true rfl) ?_
  intro p e s m below meth c ls Qf hQ hx hb hml hr hlocks hown hts hK hP hl
  have hown : s.vm.findClass RX3 = some m.cls := hown
  have hl : lv_has ls 8 [(0, .ref h), (1, .int mo)] := hl
  refine lv_aload_n hx hb dX3_down_0 rfl (lv_at hl 0 rfl) ?_
  refine kPi (va_runV (As := []) (rest := []) ⟨hx, hb, hml, hown, hts⟩ (c_X3_noSecret l D cI cS h sa p0 aa ab q0 b0 q1 q2 q3 old rd tr lf an pn gr kd pl wt) (cwV 0 hts gX3_down_X3_noSecret rfl rfl rfl q_X3_noSecret ⟨Nat.le_of_ble_eq_true rfl, Nat.le_of_ble_eq_true rfl⟩) (kPV hK hP [0, 4, 5, 6, 7] rfl (va_recv hK.1 hP (ci := 3) (q0 := 0) rfl rfl) []) rfl rfl hl.1 rfl (lv_room (Nat.le_of_ble_eq_true rfl)) dX3_down_1 ⟨Nat.zero_le _, Nat.zero_le _⟩) ?_
  refine lv_if_eq (tgt := 10) hx hb dX3_down_4 (by decide) (fun c4 => ?_) (fun c4 => ?_)
  · skip
    refine lv_iload_n hx hb dX3_down_10 rfl (lv_at hl 1 rfl) ?_
    refine lv_bipush (v := 99) hx hb dX3_down_11 (by decide) ?_
    refine kPi (va_runS (As := [.int mo, .int 99]) (rest := []) ⟨hx, hb, hml, hown, hts⟩ (c_X3_within l D cI cS mo 99) (va_cwS 2 hts gX3_down_X3_within rfl rfl rfl q_X3_within.2 ⟨Nat.le_of_ble_eq_true rfl, Nat.le_of_ble_eq_true rfl⟩) (kPS hK hP [] rfl [.int mo, .int 99]) rfl rfl hl.1 rfl (lv_room (Nat.le_of_ble_eq_true rfl)) dX3_down_13 ⟨Nat.zero_le _, Nat.zero_le _⟩) ?_
    refine lv_if_ne (tgt := 22) hx hb dX3_down_16 (by decide) (fun c16 => ?_) (fun c16 => ?_)
    · skip
      refine lv_aload_n hx hb dX3_down_22 rfl (lv_at hl 0 rfl) ?_
      refine va_get (D := D) (ci := 3) (v := .ref q0) (C := RX3) (T := TX3) (N := 10) hx hb hts (fun _ h => List.mem_cons_of_mem _ (List.mem_append_left _ (List.mem_append_right _ h))) hown hK.1 hP 0 rfl rfl 4 (by decide) (hts (.fieldLink RX3 34 "LieNights" "secret" "LLieNights$Secret;") (List.mem_of_getElem? (i := 1) rfl)) (fun _ h9 => h9) rfl dX3_down_23 ?_
      refine kPi (va_runV (As := []) (rest := []) ⟨hx, hb, hml, hown, hts⟩ (c_X1_growth l D cI cS q0 q1 q2 q3 an pn gr kd pl wt) (cwV 0 hts gX3_down_X1_growth rfl rfl rfl q_X1_growth ⟨Nat.le_of_ble_eq_true rfl, Nat.le_of_ble_eq_true rfl⟩) (kPV hK hP [4, 5, 6, 7] rfl (va_recv hK.1 hP (ci := 1) (q0 := 4) rfl rfl) []) rfl rfl hl.1 rfl (lv_room (Nat.le_of_ble_eq_true rfl)) dX3_down_26 ⟨Nat.zero_le _, Nat.zero_le _⟩) ?_
      refine lv_iload_n hx hb dX3_down_29 rfl (lv_at hl 1 rfl) ?_
      refine lv_imul hx hb dX3_down_30 ?_
      refine lv_istore_n (lv' := [(2, .int ((fX1_growth gr) * mo)), (0, .ref h), (1, .int mo)]) hx hb dX3_down_31 rfl hl (by decide) rfl (fun ls hl => ?_)
      refine lv_iconst (v := 0) hx hb dX3_down_32 (by decide) ?_
      refine lv_istore_n (lv' := [(3, .int 0), (2, .int ((fX1_growth gr) * mo)), (0, .ref h), (1, .int mo)]) hx hb dX3_down_33 rfl hl (by decide) rfl (fun ls hl => ?_)
      refine lv_bipush (v := (-9)) hx hb dX3_down_34 (by decide) ?_
      refine lv_istore (lv' := [(4, .int (-9)), (3, .int 0), (2, .int ((fX1_growth gr) * mo)), (0, .ref h), (1, .int mo)]) hx hb dX3_down_36 hl (by decide) rfl (fun ls hl => ?_)
      refine lv_iconst (v := 0) hx hb dX3_down_38 (by decide) ?_
      refine lv_istore (lv' := [(5, .int 0), (4, .int (-9)), (3, .int 0), (2, .int ((fX1_growth gr) * mo)), (0, .ref h), (1, .int mo)]) hx hb dX3_down_39 hl (by decide) rfl (fun ls hl => ?_)
      have hR1 : (fX3_down an gr wt Pn mo) = (aX3_down_41  ((lp (fun k a => sX3_down_41 gr wt Pn mo k a.1 a.2) (0, (-9)) Pn).1) ((lp (fun k a => sX3_down_41 gr wt Pn mo k a.1 a.2) (0, (-9)) Pn).2)) := (by unfold fX3_down; rw [if_pos c4, if_neg c16])
      have loop41 : ∀ (n k41 : Nat), k41 ≤ Pn → Pn + 1 ≤ k41 + n → ∀ (v3_41 : Int32) (v4_41 : Int32), lp (fun k a => sX3_down_41 gr wt Pn mo k a.1 a.2) (0, (-9)) k41 = (v3_41, v4_41) →  ∀ (ls : Array Slot), lv_has ls 8 [(0, .ref h), (1, .int mo), (2, .int ((fX1_growth gr) * mo)), (3, .int v3_41), (4, .int v4_41), (5, .int (nI k41))] → W p l e { frames := 2, cells := 0, slots := 0, locals := 42 } s m ([.ref h, .int mo] : List Value).toArray below meth c s.heap [] 0 0 Qf (F0 m 41 ls []) := by
        intro n
        induction n with
        | zero => intro k41 h1 h2; exact absurd h2 (by omega)
        | succ n ih =>
          intro k41 hk41 hn41 v3_41 v4_41 hacc41  ls hl
          have ih41 := ih
          refine lv_iload hx hb dX3_down_41 (lv_at hl 5 rfl) ?_
          refine lv_aload_n hx hb dX3_down_43 rfl (lv_at hl 0 rfl) ?_
          refine va_get (D := D) (ci := 3) (v := .ref q0) (C := RX3) (T := TX3) (N := 10) hx hb hts (fun _ h => List.mem_cons_of_mem _ (List.mem_append_left _ (List.mem_append_right _ h))) hown hK.1 hP 0 rfl rfl 4 (by decide) (hts (.fieldLink RX3 34 "LieNights" "secret" "LLieNights$Secret;") (List.mem_of_getElem? (i := 1) rfl)) (fun _ h9 => h9) rfl dX3_down_44 ?_
          refine kPi (va_runV (As := []) (rest := [.int (nI k41)]) ⟨hx, hb, hml, hown, hts⟩ (c_X1_pillars l D cI cS q0 q1 q2 q3 an pn gr kd pl wt) (cwV 0 hts gX3_down_X1_pillars rfl rfl rfl q_X1_pillars ⟨Nat.le_of_ble_eq_true rfl, Nat.le_of_ble_eq_true rfl⟩) (kPV hK hP [4, 5, 6, 7] rfl (va_recv hK.1 hP (ci := 1) (q0 := 4) rfl rfl) []) rfl rfl hl.1 rfl (lv_room (Nat.le_of_ble_eq_true rfl)) dX3_down_47 ⟨Nat.zero_le _, Nat.zero_le _⟩) ?_
          refine lv_icmp_ge (tgt := 129) hx hb dX3_down_50 (by decide) (fun c50 => ?_) (fun c50 => ?_)
          · skip
            have hkN : k41 = Pn := (kEnd hk41 rfl hpn (by omega) c50)
            rw [hkN] at hacc41
            have hR2 : (fX3_down an gr wt Pn mo) = aX3_down_41  v3_41 v4_41 := hR1.trans (lp_end (x := (v3_41, v4_41)) (g := (fun a => aX3_down_41  a.1 a.2)) hacc41)
            refine lv_iload hx hb dX3_down_129 (lv_at hl 4 rfl) ?_
            have hR3 : (fX3_down an gr wt Pn mo) = v4_41 := hR2.trans rfl
            rw [hQ]
            exact W.iret (v := v4_41) hx hb hr (fun t ht hW => ⟨_, rfl, hR3.symm, ht⟩) (fun q h => by cases h) dX3_down_131
          have hlt41 : k41 < Pn := (kLt hk41 rfl hpn c50)
          refine lv_iload hx hb dX3_down_53 (lv_at hl 5 rfl) ?_
          refine lv_iconst (v := 1) hx hb dX3_down_55 (by decide) ?_
          refine lv_iadd hx hb dX3_down_56 ?_
          refine lv_istore (lv' := [(6, .int ((nI k41) + 1)), (0, .ref h), (1, .int mo), (2, .int ((fX1_growth gr) * mo)), (3, .int v3_41), (4, .int v4_41), (5, .int (nI k41))]) hx hb dX3_down_57 hl (by decide) rfl (fun ls hl => ?_)
          have hR4 : sX3_down_41 gr wt Pn mo k41 v3_41 v4_41 = (aX3_down_59  ((lp (fun k a => sX3_down_59 gr wt mo k41 k a.1 a.2) (v3_41, v4_41) (Pn - (k41 + 1))).1) ((lp (fun k a => sX3_down_59 gr wt mo k41 k a.1 a.2) (v3_41, v4_41) (Pn - (k41 + 1))).2)) := rfl
          have loop59 : ∀ (n k59 : Nat), k59 ≤ (Pn - (k41 + 1)) → (Pn - (k41 + 1)) + 1 ≤ k59 + n → ∀ (v3_59 : Int32) (v4_59 : Int32), lp (fun k a => sX3_down_59 gr wt mo k41 k a.1 a.2) (v3_41, v4_41) k59 = (v3_59, v4_59) →  ∀ (ls : Array Slot), lv_has ls 8 [(0, .ref h), (1, .int mo), (2, .int ((fX1_growth gr) * mo)), (3, .int v3_59), (4, .int v4_59), (5, .int (nI k41)), (6, .int (nI (k41 + 1 + k59)))] → W p l e { frames := 2, cells := 0, slots := 0, locals := 42 } s m ([.ref h, .int mo] : List Value).toArray below meth c s.heap [] 0 0 Qf (F0 m 59 ls []) := by
            intro n
            induction n with
            | zero => intro k59 h1 h2; exact absurd h2 (by omega)
            | succ n ih =>
              intro k59 hk59 hn59 v3_59 v4_59 hacc59  ls hl
              have ih59 := ih
              refine lv_iload hx hb dX3_down_59 (lv_at hl 6 rfl) ?_
              refine lv_aload_n hx hb dX3_down_61 rfl (lv_at hl 0 rfl) ?_
              refine va_get (D := D) (ci := 3) (v := .ref q0) (C := RX3) (T := TX3) (N := 10) hx hb hts (fun _ h => List.mem_cons_of_mem _ (List.mem_append_left _ (List.mem_append_right _ h))) hown hK.1 hP 0 rfl rfl 4 (by decide) (hts (.fieldLink RX3 34 "LieNights" "secret" "LLieNights$Secret;") (List.mem_of_getElem? (i := 1) rfl)) (fun _ h9 => h9) rfl dX3_down_62 ?_
              refine kPi (va_runV (As := []) (rest := [.int (nI (k41 + 1 + k59))]) ⟨hx, hb, hml, hown, hts⟩ (c_X1_pillars l D cI cS q0 q1 q2 q3 an pn gr kd pl wt) (cwV 0 hts gX3_down_X1_pillars rfl rfl rfl q_X1_pillars ⟨Nat.le_of_ble_eq_true rfl, Nat.le_of_ble_eq_true rfl⟩) (kPV hK hP [4, 5, 6, 7] rfl (va_recv hK.1 hP (ci := 1) (q0 := 4) rfl rfl) []) rfl rfl hl.1 rfl (lv_room (Nat.le_of_ble_eq_true rfl)) dX3_down_65 ⟨Nat.zero_le _, Nat.zero_le _⟩) ?_
              refine lv_icmp_ge (tgt := 123) hx hb dX3_down_68 (by decide) (fun c68 => ?_) (fun c68 => ?_)
              · skip
                have hkN : k59 = (Pn - (k41 + 1)) := (kEndO hk59 (by omega) (by omega) rfl hpn c68)
                rw [hkN] at hacc59
                have hR5 : sX3_down_41 gr wt Pn mo k41 v3_41 v4_41 = aX3_down_59  v3_59 v4_59 := hR4.trans (lp_end (x := (v3_59, v4_59)) (g := (fun a => aX3_down_59  a.1 a.2)) hacc59)
                refine lv_iinc (v := (nI (k41 + 1))) (lv' := [(5, .int (nI (k41 + 1))), (0, .ref h), (1, .int mo), (2, .int ((fX1_growth gr) * mo)), (3, .int v3_59), (4, .int v4_59), (6, .int (nI (k41 + 1 + k59)))]) hx hb dX3_down_123 hl (k := 5) rfl (nI_1 (k41)) (by decide) rfl (fun ls hl => ?_)
                refine lv_goto (tgt := 41) hx hb dX3_down_126 (by decide) ?_
                have hR6 : sX3_down_41 gr wt Pn mo k41 v3_41 v4_41 = (v3_59, v4_59) := hR5.trans rfl
                exact ih41 (k41 + 1) hlt41 (by omega) _ _ (lp_next hacc41 hR6)  ls (lv_sub hl [1, 2, 3, 4, 5, 0] rfl)
              have hlt59 : k59 < (Pn - (k41 + 1)) := (kLtO hk59 (by omega) rfl hpn c68)
              refine lv_aload_n hx hb dX3_down_71 rfl (lv_at hl 0 rfl) ?_
              refine va_get (D := D) (ci := 3) (v := .ref q0) (C := RX3) (T := TX3) (N := 10) hx hb hts (fun _ h => List.mem_cons_of_mem _ (List.mem_append_left _ (List.mem_append_right _ h))) hown hK.1 hP 0 rfl rfl 4 (by decide) (hts (.fieldLink RX3 34 "LieNights" "secret" "LLieNights$Secret;") (List.mem_of_getElem? (i := 1) rfl)) (fun _ h9 => h9) rfl dX3_down_72 ?_
              refine lv_iload hx hb dX3_down_75 (lv_at hl 5 rfl) ?_
              refine kPi (va_runV (As := [.int (nI k41)]) (rest := []) ⟨hx, hb, hml, hown, hts⟩ (c_X1_weightOf l D cI cS q0 q1 q2 q3 an pn gr kd pl wt (nI k41)) (cwV 1 hts gX3_down_X1_weightOf rfl rfl rfl q_X1_weightOf ⟨Nat.le_of_ble_eq_true rfl, Nat.le_of_ble_eq_true rfl⟩) (kPV hK hP [4, 5, 6, 7] rfl (va_recv hK.1 hP (ci := 1) (q0 := 4) rfl rfl) [.int (nI k41)]) rfl rfl hl.1 rfl (lv_room (Nat.le_of_ble_eq_true rfl)) dX3_down_77 ⟨Nat.zero_le _, Nat.zero_le _⟩) ?_
              refine lv_aload_n hx hb dX3_down_80 rfl (lv_at hl 0 rfl) ?_
              refine va_get (D := D) (ci := 3) (v := .ref q0) (C := RX3) (T := TX3) (N := 10) hx hb hts (fun _ h => List.mem_cons_of_mem _ (List.mem_append_left _ (List.mem_append_right _ h))) hown hK.1 hP 0 rfl rfl 4 (by decide) (hts (.fieldLink RX3 34 "LieNights" "secret" "LLieNights$Secret;") (List.mem_of_getElem? (i := 1) rfl)) (fun _ h9 => h9) rfl dX3_down_81 ?_
              refine lv_iload hx hb dX3_down_84 (lv_at hl 6 rfl) ?_
              refine kPi (va_runV (As := [.int (nI (k41 + 1 + k59))]) (rest := [.int (fX1_weightOf wt (nI k41))]) ⟨hx, hb, hml, hown, hts⟩ (c_X1_weightOf l D cI cS q0 q1 q2 q3 an pn gr kd pl wt (nI (k41 + 1 + k59))) (cwV 1 hts gX3_down_X1_weightOf rfl rfl rfl q_X1_weightOf ⟨Nat.le_of_ble_eq_true rfl, Nat.le_of_ble_eq_true rfl⟩) (kPV hK hP [4, 5, 6, 7] rfl (va_recv hK.1 hP (ci := 1) (q0 := 4) rfl rfl) [.int (nI (k41 + 1 + k59))]) rfl rfl hl.1 rfl (lv_room (Nat.le_of_ble_eq_true rfl)) dX3_down_86 ⟨Nat.zero_le _, Nat.zero_le _⟩) ?_
              refine lv_iadd hx hb dX3_down_89 ?_
              refine lv_istore (lv' := [(7, .int ((fX1_weightOf wt (nI k41)) + (fX1_weightOf wt (nI (k41 + 1 + k59))))), (0, .ref h), (1, .int mo), (2, .int ((fX1_growth gr) * mo)), (3, .int v3_59), (4, .int v4_59), (5, .int (nI k41)), (6, .int (nI (k41 + 1 + k59)))]) hx hb dX3_down_90 hl (by decide) rfl (fun ls hl => ?_)
              refine lv_iload hx hb dX3_down_92 (lv_at hl 0 rfl) ?_
              refine lv_iload_n hx hb dX3_down_94 rfl (lv_at hl 3 rfl) ?_
              refine lv_icmp_gt (tgt := 117) hx hb dX3_down_95 (by decide) (fun c95 => ?_) (fun c95 => ?_)
              · skip
                refine lv_iinc (v := (nI ((k41 + 1 + k59) + 1))) (lv' := [(6, .int (nI ((k41 + 1 + k59) + 1))), (7, .int ((fX1_weightOf wt (nI k41)) + (fX1_weightOf wt (nI (k41 + 1 + k59))))), (0, .ref h), (1, .int mo), (2, .int ((fX1_growth gr) * mo)), (3, .int v3_59), (4, .int v4_59), (5, .int (nI k41))]) hx hb dX3_down_117 hl (k := 7) rfl (nI_1 ((k41 + 1 + k59))) (by decide) rfl (fun ls hl => ?_)
                refine lv_goto (tgt := 59) hx hb dX3_down_120 (by decide) ?_
                have hR7 : sX3_down_59 gr wt mo k41 k59 v3_59 v4_59 = (v3_59, v4_59) := (by unfold sX3_down_59; rw [if_pos c95])
                exact ih59 (k59 + 1) hlt59 (by omega) _ _ (lp_next hacc59 hR7)  ls (lv_sub hl [2, 3, 4, 5, 6, 7, 0] rfl)
              refine lv_iload hx hb dX3_down_98 (lv_at hl 0 rfl) ?_
              refine lv_iload_n hx hb dX3_down_100 rfl (lv_at hl 4 rfl) ?_
              refine lv_icmp_le (tgt := 117) hx hb dX3_down_101 (by decide) (fun c101 => ?_) (fun c101 => ?_)
              · skip
                refine lv_iinc (v := (nI ((k41 + 1 + k59) + 1))) (lv' := [(6, .int (nI ((k41 + 1 + k59) + 1))), (7, .int ((fX1_weightOf wt (nI k41)) + (fX1_weightOf wt (nI (k41 + 1 + k59))))), (0, .ref h), (1, .int mo), (2, .int ((fX1_growth gr) * mo)), (3, .int v3_59), (4, .int v4_59), (5, .int (nI k41))]) hx hb dX3_down_117 hl (k := 7) rfl (nI_1 ((k41 + 1 + k59))) (by decide) rfl (fun ls hl => ?_)
                refine lv_goto (tgt := 59) hx hb dX3_down_120 (by decide) ?_
                have hR8 : sX3_down_59 gr wt mo k41 k59 v3_59 v4_59 = (v3_59, v4_59) := (by unfold sX3_down_59; rw [if_neg c95, if_pos c101])
                exact ih59 (k59 + 1) hlt59 (by omega) _ _ (lp_next hacc59 hR8)  ls (lv_sub hl [2, 3, 4, 5, 6, 7, 0] rfl)
              refine lv_iload hx hb dX3_down_104 (lv_at hl 0 rfl) ?_
              refine lv_istore_n (lv' := [(3, .int ((fX1_weightOf wt (nI k41)) + (fX1_weightOf wt (nI (k41 + 1 + k59))))), (7, .int ((fX1_weightOf wt (nI k41)) + (fX1_weightOf wt (nI (k41 + 1 + k59))))), (0, .ref h), (1, .int mo), (2, .int ((fX1_growth gr) * mo)), (4, .int v4_59), (5, .int (nI k41)), (6, .int (nI (k41 + 1 + k59)))]) hx hb dX3_down_106 rfl hl (by decide) rfl (fun ls hl => ?_)
              refine lv_bipush (v := 10) hx hb dX3_down_107 (by decide) ?_
              refine lv_iload hx hb dX3_down_109 (lv_at hl 6 rfl) ?_
              refine lv_imul hx hb dX3_down_111 ?_
              refine lv_iload hx hb dX3_down_112 (lv_at hl 7 rfl) ?_
              refine lv_iadd hx hb dX3_down_114 ?_
              refine lv_istore (lv' := [(4, .int ((10 * (nI k41)) + (nI (k41 + 1 + k59)))), (3, .int ((fX1_weightOf wt (nI k41)) + (fX1_weightOf wt (nI (k41 + 1 + k59))))), (7, .int ((fX1_weightOf wt (nI k41)) + (fX1_weightOf wt (nI (k41 + 1 + k59))))), (0, .ref h), (1, .int mo), (2, .int ((fX1_growth gr) * mo)), (5, .int (nI k41)), (6, .int (nI (k41 + 1 + k59)))]) hx hb dX3_down_115 hl (by decide) rfl (fun ls hl => ?_)
              refine lv_iinc (v := (nI ((k41 + 1 + k59) + 1))) (lv' := [(6, .int (nI ((k41 + 1 + k59) + 1))), (4, .int ((10 * (nI k41)) + (nI (k41 + 1 + k59)))), (3, .int ((fX1_weightOf wt (nI k41)) + (fX1_weightOf wt (nI (k41 + 1 + k59))))), (7, .int ((fX1_weightOf wt (nI k41)) + (fX1_weightOf wt (nI (k41 + 1 + k59))))), (0, .ref h), (1, .int mo), (2, .int ((fX1_growth gr) * mo)), (5, .int (nI k41))]) hx hb dX3_down_117 hl (k := 7) rfl (nI_1 ((k41 + 1 + k59))) (by decide) rfl (fun ls hl => ?_)
              refine lv_goto (tgt := 59) hx hb dX3_down_120 (by decide) ?_
              have hR9 : sX3_down_59 gr wt mo k41 k59 v3_59 v4_59 = (((fX1_weightOf wt (nI k41)) + (fX1_weightOf wt (nI (k41 + 1 + k59)))), ((10 * (nI k41)) + (nI (k41 + 1 + k59)))) := (by unfold sX3_down_59; rw [if_neg c95, if_neg c101])
              exact ih59 (k59 + 1) hlt59 (by omega) _ _ (lp_next hacc59 hR9)  ls (lv_sub hl [4, 5, 6, 2, 1, 7, 0] rfl)
          exact loop59 ((Pn - (k41 + 1)) + 1) 0 (Nat.zero_le _) (by omega) _ _ rfl  ls (lv_sub hl [1, 2, 3, 4, 5, 6, 0] (by rw [nI_1]; rfl))
      exact loop41 (Pn + 1) 0 (Nat.zero_le _) (by omega) _ _ rfl  ls (lv_sub hl [4, 5, 3, 2, 1, 0] rfl)
    refine lv_bipush (v := (-2)) hx hb dX3_down_19 (by decide) ?_
    have hR10 : (fX3_down an gr wt Pn mo) = (-2) := (by unfold fX3_down; rw [if_pos c4, if_pos c16])
    rw [hQ]
    exact W.iret (v := (-2)) hx hb hr (fun t ht hW => ⟨_, rfl, hR10.symm, ht⟩) (fun q h => by cases h) dX3_down_21
  refine lv_bipush (v := (-3)) hx hb dX3_down_7 (by decide) ?_
  have hR11 : (fX3_down an gr wt Pn mo) = (-3) := (by unfold fX3_down; rw [if_neg c4])
  rw [hQ]
  exact W.iret (v := (-3)) hx hb hr (fun t ht hW => ⟨_, rfl, hR11.symm, ht⟩) (fun q h => by cases h) dX3_down_9

def fX3_reading (rd : Int32) (ask shw : Nat → Int32) (an x v : Int32) : Int32 × Int32 × (Nat → Int32) × (Nat → Int32) := (if (fX3_isAnswer an x) = 0 then ((-1), rd, ask, shw) else (if v = (-9) then (if rd < 8 then (rd, (rd + 1), (fX3_write 8 ask rd x), (fX3_write 8 shw rd v)) else ((-4), rd, ask, shw)) else (if (fX3_within v 10) = 0 then ((-2), rd, ask, shw) else (if rd < 8 then (rd, (rd + 1), (fX3_write 8 ask rd x), (fX3_write 8 shw rd v)) else ((-4), rd, ask, shw)))))
theorem q_X3_reading : yX3_reading.cls = RX3 ∧ yX3_reading.cls ≠ "java/lang/invoke/MethodHandle" ∧ yX3_reading.cls ≠ "java/lang/invoke/VarHandle" ∧ (parseMethodDescriptor yX3_reading.desc).map (fun d => d.parameters.length) = some 2 := by decide +kernel
set_option maxHeartbeats 4000000 in
set_option maxRecDepth 100000 in
theorem c_X3_reading (l : Launch) (D : va_G) (cI cS : ClassId) (h sa p0 aa ab q0 q1 q2 q3 b0 b1 b2 b3 p1 p2 p3 p4 : Nat) (sf : Nat → Option Nat) (old rd tr lf : Int32) (ask shw : Nat → Int32) (an pn gr : Int32) (kd pl wt : Nat → Int32) (ban bpn bgr : Int32) (bkd bpl bwt al wo fi ni : Nat → Int32) (pa x v : Int32)  : MMi l yX3_reading wsX3_reading { frames := 2, cells := 0, slots := 0, locals := 41 } D cI cS (wL17 cI cS h sa p0 aa ab q0 b0 q0 q1 q2 q3 b0 b1 b2 b3 p1 p2 p3 p4 sf old rd tr lf ask shw an pn gr kd pl wt ban bpn bgr bkd bpl bwt al wo fi ni pa) [.ref h, .int x, .int v] ((fX3_reading rd ask shw an x v).1) (wL17 cI cS h sa p0 aa ab q0 b0 q0 q1 q2 q3 b0 b1 b2 b3 p1 p2 p3 p4 sf old ((fX3_reading rd ask shw an x v).2.1) tr lf ((fX3_reading rd ask shw an x v).2.2.1) ((fX3_reading rd ask shw an x v).2.2.2) an pn gr kd pl wt ban bpn bgr bkd bpl bwt al wo fi ni pa) := by
  refine kEnterM (cc := cX3_reading) (maxL := 3) (ret := (some .int)) (by decide) rfl (Nat.le_of_ble_eq_true rfl) ?_
  intro p e s m below meth c ls Qf hQ hx hb hml hr hlocks hown hts hK hP hD hS hl
  have hown : s.vm.findClass RX3 = some m.cls := hown
  have hl : lv_has ls 3 [(0, .ref h), (1, .int x), (2, .int v)] := hl
  generalize kA (wL17 cI cS h sa p0 aa ab q0 b0 q0 q1 q2 q3 b0 b1 b2 b3 p1 p2 p3 p4 sf old rd tr lf ask shw an pn gr kd pl wt ban bpn bgr bkd bpl bwt al wo fi ni pa) = A at hQ hD hS
  refine lv_aload_n hx hb dX3_reading_0 rfl (lv_at hl 0 rfl) ?_
  refine lv_iload_n hx hb dX3_reading_1 rfl (lv_at hl 1 rfl) ?_
  refine kPi (va_runV (As := [.int x]) (rest := []) ⟨hx, hb, hml, hown, hts⟩ (c_X3_isAnswer l D cI cS h sa p0 aa ab q0 b0 q1 q2 q3 old rd tr lf an pn gr kd pl wt x) (cwV 1 hts gX3_reading_X3_isAnswer rfl rfl rfl q_X3_isAnswer ⟨Nat.le_of_ble_eq_true rfl, Nat.le_of_ble_eq_true rfl⟩) (kPV hK hP [0, 4, 5, 6, 7] rfl (va_recv hK.1 hP (ci := 3) (q0 := 0) rfl rfl) [.int x]) rfl rfl hl.1 rfl (lv_room (Nat.le_of_ble_eq_true rfl)) dX3_reading_2 ⟨Nat.zero_le _, Nat.zero_le _⟩) ?_
  refine lv_if_ne (tgt := 10) hx hb dX3_reading_5 (by decide) (fun c5 => ?_) (fun c5 => ?_)
  · skip
    refine lv_iload_n hx hb dX3_reading_10 rfl (lv_at hl 2 rfl) ?_
    refine lv_bipush (v := (-9)) hx hb dX3_reading_11 (by decide) ?_
    refine lv_icmp_eq (tgt := 28) hx hb dX3_reading_13 (by decide) (fun c13 => ?_) (fun c13 => ?_)
    · skip
      refine lv_aload_n hx hb dX3_reading_28 rfl (lv_at hl 0 rfl) ?_
      refine va_get (D := D) (ci := 3) (v := .int rd) (C := RX3) (T := TX3) (N := 10) hx hb hts (fun _ h => List.mem_cons_of_mem _ (List.mem_append_left _ (List.mem_append_right _ h))) hown hK.1 hP 0 rfl rfl 7 (by decide) (hts (.fieldLink RX3 161 "LieNights" "readings" "I") (List.mem_of_getElem? (i := 1) rfl)) (fun _ h9 => h9) rfl dX3_reading_29 ?_
      refine lv_bipush (v := 8) hx hb dX3_reading_32 (by decide) ?_
      refine lv_icmp_lt (tgt := 40) hx hb dX3_reading_34 (by decide) (fun c34 => ?_) (fun c34 => ?_)
      · skip
        refine lv_aload_n hx hb dX3_reading_40 rfl (lv_at hl 0 rfl) ?_
        refine va_get (D := D) (ci := 3) (v := .ref aa) (C := RX3) (T := TX3) (N := 10) hx hb hts (fun _ h => List.mem_cons_of_mem _ (List.mem_append_left _ (List.mem_append_right _ h))) hown hK.1 hP 0 rfl rfl 2 (by decide) (hts (.fieldLink RX3 24 "LieNights" "asked" "[I") (List.mem_of_getElem? (i := 2) rfl)) (fun _ h9 => h9) rfl dX3_reading_41 ?_
        refine lv_aload_n hx hb dX3_reading_44 rfl (lv_at hl 0 rfl) ?_
        refine va_get (D := D) (ci := 3) (v := .int rd) (C := RX3) (T := TX3) (N := 10) hx hb hts (fun _ h => List.mem_cons_of_mem _ (List.mem_append_left _ (List.mem_append_right _ h))) hown hK.1 hP 0 rfl rfl 7 (by decide) (hts (.fieldLink RX3 161 "LieNights" "readings" "I") (List.mem_of_getElem? (i := 1) rfl)) (fun _ h9 => h9) rfl dX3_reading_45 ?_
        refine lv_iload_n hx hb dX3_reading_48 rfl (lv_at hl 1 rfl) ?_
        refine kMv (wl' := (wL17 cI cS h sa p0 aa ab q0 b0 q0 q1 q2 q3 b0 b1 b2 b3 p1 p2 p3 p4 sf old rd tr lf (fX3_write 8 ask rd x) shw an pn gr kd pl wt ban bpn bgr bkd bpl bwt al wo fi ni pa)) (wc := (wArr cI aa 8 ask)) (w1 := (wArr cI aa 8 (fX3_write 8 ask rd x))) hP hD hS [2] rfl rfl rfl (va_runS (As := [.ref aa, .int rd, .int x]) (rest := []) ⟨hx, hb, hml, hown, hts⟩ (c_X3_write l D cI cS aa 8 ask rd x (by decide)) (va_cwS 3 hts gX3_reading_X3_write rfl rfl rfl q_X3_write.2 ⟨Nat.le_of_ble_eq_true rfl, Nat.le_of_ble_eq_true rfl⟩) (kMS hK hP hD [2] rfl rfl [.ref aa, .int rd, .int x]) rfl rfl hl.1 rfl (lv_room (Nat.le_of_ble_eq_true rfl)) dX3_reading_49 ⟨Nat.zero_le _, Nat.zero_le _⟩) (fun H locs hP hD hS => ?_)
        refine lv_aload_n hx hb dX3_reading_52 rfl (lv_at hl 0 rfl) ?_
        refine va_get (D := D) (ci := 3) (v := .ref ab) (C := RX3) (T := TX3) (N := 10) hx hb hts (fun _ h => List.mem_cons_of_mem _ (List.mem_append_left _ (List.mem_append_right _ h))) hown hK.1 hP 0 rfl rfl 3 (by decide) (hts (.fieldLink RX3 28 "LieNights" "showed" "[I") (List.mem_of_getElem? (i := 3) rfl)) (fun _ h9 => h9) rfl dX3_reading_53 ?_
        refine lv_aload_n hx hb dX3_reading_56 rfl (lv_at hl 0 rfl) ?_
        refine va_get (D := D) (ci := 3) (v := .int rd) (C := RX3) (T := TX3) (N := 10) hx hb hts (fun _ h => List.mem_cons_of_mem _ (List.mem_append_left _ (List.mem_append_right _ h))) hown hK.1 hP 0 rfl rfl 7 (by decide) (hts (.fieldLink RX3 161 "LieNights" "readings" "I") (List.mem_of_getElem? (i := 1) rfl)) (fun _ h9 => h9) rfl dX3_reading_57 ?_
        refine lv_iload_n hx hb dX3_reading_60 rfl (lv_at hl 2 rfl) ?_
        refine kMv (wl' := (wL17 cI cS h sa p0 aa ab q0 b0 q0 q1 q2 q3 b0 b1 b2 b3 p1 p2 p3 p4 sf old rd tr lf (fX3_write 8 ask rd x) (fX3_write 8 shw rd v) an pn gr kd pl wt ban bpn bgr bkd bpl bwt al wo fi ni pa)) (wc := (wArr cI ab 8 shw)) (w1 := (wArr cI ab 8 (fX3_write 8 shw rd v))) hP hD hS [3] rfl rfl rfl (va_runS (As := [.ref ab, .int rd, .int v]) (rest := []) ⟨hx, hb, hml, hown, hts⟩ (c_X3_write l D cI cS ab 8 shw rd v (by decide)) (va_cwS 3 hts gX3_reading_X3_write rfl rfl rfl q_X3_write.2 ⟨Nat.le_of_ble_eq_true rfl, Nat.le_of_ble_eq_true rfl⟩) (kMS hK hP hD [3] rfl rfl [.ref ab, .int rd, .int v]) rfl rfl hl.1 rfl (lv_room (Nat.le_of_ble_eq_true rfl)) dX3_reading_61 ⟨Nat.zero_le _, Nat.zero_le _⟩) (fun H locs hP hD hS => ?_)
        refine lv_aload_n hx hb dX3_reading_64 rfl (lv_at hl 0 rfl) ?_
        refine lv_dup hx hb dX3_reading_65 rfl ?_
        refine va_get (D := D) (ci := 3) (v := .int rd) (C := RX3) (T := TX3) (N := 10) hx hb hts (fun _ h => List.mem_cons_of_mem _ (List.mem_append_left _ (List.mem_append_right _ h))) hown hK.1 hP 0 rfl rfl 7 (by decide) (hts (.fieldLink RX3 161 "LieNights" "readings" "I") (List.mem_of_getElem? (i := 1) rfl)) (fun _ h9 => h9) rfl dX3_reading_66 ?_
        refine lv_dup_x1 hx hb dX3_reading_69 rfl rfl ?_
        refine lv_iconst (v := 1) hx hb dX3_reading_70 (by decide) ?_
        refine lv_iadd hx hb dX3_reading_71 ?_
        refine va_put (D := D) (ci := 3) (v := .int (rd + 1)) (ty := tyX3 7) (C := RX3) (T := TX3) (N := 10) hx hb hts (fun _ h => List.mem_cons_of_mem _ (List.mem_append_left _ (List.mem_append_right _ h))) tyX3 tyX3_ok nmX3 hown hK.1 hP hD hS 0 rfl rfl 7 (by decide) (hts (.fieldLink RX3 161 "LieNights" "readings" "I") (List.mem_of_getElem? (i := 1) rfl)) (fun _ h9 => h9) rfl (tyX3_ok 7 (by decide)) rfl rfl (Nat.le_of_ble_eq_true rfl) dX3_reading_72 (fun H locs hP hD hS => ?_)
        have hP : va_P D vwCl (wL17 cI cS h sa p0 aa ab q0 b0 q0 q1 q2 q3 b0 b1 b2 b3 p1 p2 p3 p4 sf old (rd + 1) tr lf (fX3_write 8 ask rd x) (fX3_write 8 shw rd v) an pn gr kd pl wt ban bpn bgr bkd bpl bwt al wo fi ni pa) H := hP
        have hD : va_D A (wL17 cI cS h sa p0 aa ab q0 b0 q0 q1 q2 q3 b0 b1 b2 b3 p1 p2 p3 p4 sf old (rd + 1) tr lf (fX3_write 8 ask rd x) (fX3_write 8 shw rd v) an pn gr kd pl wt ban bpn bgr bkd bpl bwt al wo fi ni pa) := hD
        have hR1 : (fX3_reading rd ask shw an x v) = (rd, (rd + 1), (fX3_write 8 ask rd x), (fX3_write 8 shw rd v)) := (by unfold fX3_reading; rw [if_neg c5, if_pos c13, if_pos c34])
        rw [hQ]
        exact W.iret (v := rd) hx hb hr (fun t ht hW => ⟨⟨_, (), rfl, (by show _ = _; rw [hR1]), (by show va_P D vwCl _ t.heap; rw [hR1, ht]; exact hP)⟩, hS.F ht⟩) hS.2.2 dX3_reading_75
      refine lv_bipush (v := (-4)) hx hb dX3_reading_37 (by decide) ?_
      have hR2 : (fX3_reading rd ask shw an x v) = ((-4), rd, ask, shw) := (by unfold fX3_reading; rw [if_neg c5, if_pos c13, if_neg c34])
      rw [hQ]
      exact W.iret (v := (-4)) hx hb hr (fun t ht hW => ⟨⟨_, (), rfl, (by show _ = _; rw [hR2]), (by show va_P D vwCl _ t.heap; rw [hR2, ht]; exact hP)⟩, hS.F ht⟩) hS.2.2 dX3_reading_39
    refine lv_iload_n hx hb dX3_reading_16 rfl (lv_at hl 2 rfl) ?_
    refine lv_bipush (v := 10) hx hb dX3_reading_17 (by decide) ?_
    refine kPi (va_runS (As := [.int v, .int 10]) (rest := []) ⟨hx, hb, hml, hown, hts⟩ (c_X3_within l D cI cS v 10) (va_cwS 2 hts gX3_reading_X3_within rfl rfl rfl q_X3_within.2 ⟨Nat.le_of_ble_eq_true rfl, Nat.le_of_ble_eq_true rfl⟩) (kPS hK hP [] rfl [.int v, .int 10]) rfl rfl hl.1 rfl (lv_room (Nat.le_of_ble_eq_true rfl)) dX3_reading_19 ⟨Nat.zero_le _, Nat.zero_le _⟩) ?_
    refine lv_if_ne (tgt := 28) hx hb dX3_reading_22 (by decide) (fun c22 => ?_) (fun c22 => ?_)
    · skip
      refine lv_aload_n hx hb dX3_reading_28 rfl (lv_at hl 0 rfl) ?_
      refine va_get (D := D) (ci := 3) (v := .int rd) (C := RX3) (T := TX3) (N := 10) hx hb hts (fun _ h => List.mem_cons_of_mem _ (List.mem_append_left _ (List.mem_append_right _ h))) hown hK.1 hP 0 rfl rfl 7 (by decide) (hts (.fieldLink RX3 161 "LieNights" "readings" "I") (List.mem_of_getElem? (i := 1) rfl)) (fun _ h9 => h9) rfl dX3_reading_29 ?_
      refine lv_bipush (v := 8) hx hb dX3_reading_32 (by decide) ?_
      refine lv_icmp_lt (tgt := 40) hx hb dX3_reading_34 (by decide) (fun c34 => ?_) (fun c34 => ?_)
      · skip
        refine lv_aload_n hx hb dX3_reading_40 rfl (lv_at hl 0 rfl) ?_
        refine va_get (D := D) (ci := 3) (v := .ref aa) (C := RX3) (T := TX3) (N := 10) hx hb hts (fun _ h => List.mem_cons_of_mem _ (List.mem_append_left _ (List.mem_append_right _ h))) hown hK.1 hP 0 rfl rfl 2 (by decide) (hts (.fieldLink RX3 24 "LieNights" "asked" "[I") (List.mem_of_getElem? (i := 2) rfl)) (fun _ h9 => h9) rfl dX3_reading_41 ?_
        refine lv_aload_n hx hb dX3_reading_44 rfl (lv_at hl 0 rfl) ?_
        refine va_get (D := D) (ci := 3) (v := .int rd) (C := RX3) (T := TX3) (N := 10) hx hb hts (fun _ h => List.mem_cons_of_mem _ (List.mem_append_left _ (List.mem_append_right _ h))) hown hK.1 hP 0 rfl rfl 7 (by decide) (hts (.fieldLink RX3 161 "LieNights" "readings" "I") (List.mem_of_getElem? (i := 1) rfl)) (fun _ h9 => h9) rfl dX3_reading_45 ?_
        refine lv_iload_n hx hb dX3_reading_48 rfl (lv_at hl 1 rfl) ?_
        refine kMv (wl' := (wL17 cI cS h sa p0 aa ab q0 b0 q0 q1 q2 q3 b0 b1 b2 b3 p1 p2 p3 p4 sf old rd tr lf (fX3_write 8 ask rd x) shw an pn gr kd pl wt ban bpn bgr bkd bpl bwt al wo fi ni pa)) (wc := (wArr cI aa 8 ask)) (w1 := (wArr cI aa 8 (fX3_write 8 ask rd x))) hP hD hS [2] rfl rfl rfl (va_runS (As := [.ref aa, .int rd, .int x]) (rest := []) ⟨hx, hb, hml, hown, hts⟩ (c_X3_write l D cI cS aa 8 ask rd x (by decide)) (va_cwS 3 hts gX3_reading_X3_write rfl rfl rfl q_X3_write.2 ⟨Nat.le_of_ble_eq_true rfl, Nat.le_of_ble_eq_true rfl⟩) (kMS hK hP hD [2] rfl rfl [.ref aa, .int rd, .int x]) rfl rfl hl.1 rfl (lv_room (Nat.le_of_ble_eq_true rfl)) dX3_reading_49 ⟨Nat.zero_le _, Nat.zero_le _⟩) (fun H locs hP hD hS => ?_)
        refine lv_aload_n hx hb dX3_reading_52 rfl (lv_at hl 0 rfl) ?_
        refine va_get (D := D) (ci := 3) (v := .ref ab) (C := RX3) (T := TX3) (N := 10) hx hb hts (fun _ h => List.mem_cons_of_mem _ (List.mem_append_left _ (List.mem_append_right _ h))) hown hK.1 hP 0 rfl rfl 3 (by decide) (hts (.fieldLink RX3 28 "LieNights" "showed" "[I") (List.mem_of_getElem? (i := 3) rfl)) (fun _ h9 => h9) rfl dX3_reading_53 ?_
        refine lv_aload_n hx hb dX3_reading_56 rfl (lv_at hl 0 rfl) ?_
        refine va_get (D := D) (ci := 3) (v := .int rd) (C := RX3) (T := TX3) (N := 10) hx hb hts (fun _ h => List.mem_cons_of_mem _ (List.mem_append_left _ (List.mem_append_right _ h))) hown hK.1 hP 0 rfl rfl 7 (by decide) (hts (.fieldLink RX3 161 "LieNights" "readings" "I") (List.mem_of_getElem? (i := 1) rfl)) (fun _ h9 => h9) rfl dX3_reading_57 ?_
        refine lv_iload_n hx hb dX3_reading_60 rfl (lv_at hl 2 rfl) ?_
        refine kMv (wl' := (wL17 cI cS h sa p0 aa ab q0 b0 q0 q1 q2 q3 b0 b1 b2 b3 p1 p2 p3 p4 sf old rd tr lf (fX3_write 8 ask rd x) (fX3_write 8 shw rd v) an pn gr kd pl wt ban bpn bgr bkd bpl bwt al wo fi ni pa)) (wc := (wArr cI ab 8 shw)) (w1 := (wArr cI ab 8 (fX3_write 8 shw rd v))) hP hD hS [3] rfl rfl rfl (va_runS (As := [.ref ab, .int rd, .int v]) (rest := []) ⟨hx, hb, hml, hown, hts⟩ (c_X3_write l D cI cS ab 8 shw rd v (by decide)) (va_cwS 3 hts gX3_reading_X3_write rfl rfl rfl q_X3_write.2 ⟨Nat.le_of_ble_eq_true rfl, Nat.le_of_ble_eq_true rfl⟩) (kMS hK hP hD [3] rfl rfl [.ref ab, .int rd, .int v]) rfl rfl hl.1 rfl (lv_room (Nat.le_of_ble_eq_true rfl)) dX3_reading_61 ⟨Nat.zero_le _, Nat.zero_le _⟩) (fun H locs hP hD hS => ?_)
        refine lv_aload_n hx hb dX3_reading_64 rfl (lv_at hl 0 rfl) ?_
        refine lv_dup hx hb dX3_reading_65 rfl ?_
        refine va_get (D := D) (ci := 3) (v := .int rd) (C := RX3) (T := TX3) (N := 10) hx hb hts (fun _ h => List.mem_cons_of_mem _ (List.mem_append_left _ (List.mem_append_right _ h))) hown hK.1 hP 0 rfl rfl 7 (by decide) (hts (.fieldLink RX3 161 "LieNights" "readings" "I") (List.mem_of_getElem? (i := 1) rfl)) (fun _ h9 => h9) rfl dX3_reading_66 ?_
        refine lv_dup_x1 hx hb dX3_reading_69 rfl rfl ?_
        refine lv_iconst (v := 1) hx hb dX3_reading_70 (by decide) ?_
        refine lv_iadd hx hb dX3_reading_71 ?_
        refine va_put (D := D) (ci := 3) (v := .int (rd + 1)) (ty := tyX3 7) (C := RX3) (T := TX3) (N := 10) hx hb hts (fun _ h => List.mem_cons_of_mem _ (List.mem_append_left _ (List.mem_append_right _ h))) tyX3 tyX3_ok nmX3 hown hK.1 hP hD hS 0 rfl rfl 7 (by decide) (hts (.fieldLink RX3 161 "LieNights" "readings" "I") (List.mem_of_getElem? (i := 1) rfl)) (fun _ h9 => h9) rfl (tyX3_ok 7 (by decide)) rfl rfl (Nat.le_of_ble_eq_true rfl) dX3_reading_72 (fun H locs hP hD hS => ?_)
        have hP : va_P D vwCl (wL17 cI cS h sa p0 aa ab q0 b0 q0 q1 q2 q3 b0 b1 b2 b3 p1 p2 p3 p4 sf old (rd + 1) tr lf (fX3_write 8 ask rd x) (fX3_write 8 shw rd v) an pn gr kd pl wt ban bpn bgr bkd bpl bwt al wo fi ni pa) H := hP
        have hD : va_D A (wL17 cI cS h sa p0 aa ab q0 b0 q0 q1 q2 q3 b0 b1 b2 b3 p1 p2 p3 p4 sf old (rd + 1) tr lf (fX3_write 8 ask rd x) (fX3_write 8 shw rd v) an pn gr kd pl wt ban bpn bgr bkd bpl bwt al wo fi ni pa) := hD
        have hR3 : (fX3_reading rd ask shw an x v) = (rd, (rd + 1), (fX3_write 8 ask rd x), (fX3_write 8 shw rd v)) := (by unfold fX3_reading; rw [if_neg c5, if_neg c13, if_neg c22, if_pos c34])
        rw [hQ]
        exact W.iret (v := rd) hx hb hr (fun t ht hW => ⟨⟨_, (), rfl, (by show _ = _; rw [hR3]), (by show va_P D vwCl _ t.heap; rw [hR3, ht]; exact hP)⟩, hS.F ht⟩) hS.2.2 dX3_reading_75
      refine lv_bipush (v := (-4)) hx hb dX3_reading_37 (by decide) ?_
      have hR4 : (fX3_reading rd ask shw an x v) = ((-4), rd, ask, shw) := (by unfold fX3_reading; rw [if_neg c5, if_neg c13, if_neg c22, if_neg c34])
      rw [hQ]
      exact W.iret (v := (-4)) hx hb hr (fun t ht hW => ⟨⟨_, (), rfl, (by show _ = _; rw [hR4]), (by show va_P D vwCl _ t.heap; rw [hR4, ht]; exact hP)⟩, hS.F ht⟩) hS.2.2 dX3_reading_39
    refine lv_bipush (v := (-2)) hx hb dX3_reading_25 (by decide) ?_
    have hR5 : (fX3_reading rd ask shw an x v) = ((-2), rd, ask, shw) := (by unfold fX3_reading; rw [if_neg c5, if_neg c13, if_pos c22])
    rw [hQ]
    exact W.iret (v := (-2)) hx hb hr (fun t ht hW => ⟨⟨_, (), rfl, (by show _ = _; rw [hR5]), (by show va_P D vwCl _ t.heap; rw [hR5, ht]; exact hP)⟩, hS.F ht⟩) hS.2.2 dX3_reading_27
  refine lv_iconst (v := (-1)) hx hb dX3_reading_8 (by decide) ?_
  have hR6 : (fX3_reading rd ask shw an x v) = ((-1), rd, ask, shw) := (by unfold fX3_reading; rw [if_pos c5])
  rw [hQ]
  exact W.iret (v := (-1)) hx hb hr (fun t ht hW => ⟨⟨_, (), rfl, (by show _ = _; rw [hR6]), (by show va_P D vwCl _ t.heap; rw [hR6, ht]; exact hP)⟩, hS.F ht⟩) hS.2.2 dX3_reading_9

def fX3_back (rd bk : Int32) : Int32 × Int32 := (if (fX3_within bk rd) = 0 then ((-2), rd) else ((rd - bk), (rd - bk)))
theorem q_X3_back : yX3_back.cls = RX3 ∧ yX3_back.cls ≠ "java/lang/invoke/MethodHandle" ∧ yX3_back.cls ≠ "java/lang/invoke/VarHandle" ∧ (parseMethodDescriptor yX3_back.desc).map (fun d => d.parameters.length) = some 1 := by decide +kernel
set_option maxHeartbeats 4000000 in
set_option maxRecDepth 100000 in
theorem c_X3_back (l : Launch) (D : va_G) (cI cS : ClassId) (h sa p0 aa ab q0 q1 q2 q3 b0 b1 b2 b3 p1 p2 p3 p4 : Nat) (sf : Nat → Option Nat) (old rd tr lf : Int32) (ask shw : Nat → Int32) (an pn gr : Int32) (kd pl wt : Nat → Int32) (ban bpn bgr : Int32) (bkd bpl bwt al wo fi ni : Nat → Int32) (pa bk : Int32)  : MMi l yX3_back wsX3_back { frames := 1, cells := 0, slots := 0, locals := 21 } D cI cS (wL17 cI cS h sa p0 aa ab q0 b0 q0 q1 q2 q3 b0 b1 b2 b3 p1 p2 p3 p4 sf old rd tr lf ask shw an pn gr kd pl wt ban bpn bgr bkd bpl bwt al wo fi ni pa) [.ref h, .int bk] ((fX3_back rd bk).1) (wL17 cI cS h sa p0 aa ab q0 b0 q0 q1 q2 q3 b0 b1 b2 b3 p1 p2 p3 p4 sf old ((fX3_back rd bk).2) tr lf ask shw an pn gr kd pl wt ban bpn bgr bkd bpl bwt al wo fi ni pa) := by
  refine kEnterM (cc := cX3_back) (maxL := 2) (ret := (some .int)) (by decide) rfl (Nat.le_of_ble_eq_true rfl) ?_
  intro p e s m below meth c ls Qf hQ hx hb hml hr hlocks hown hts hK hP hD hS hl
  have hown : s.vm.findClass RX3 = some m.cls := hown
  have hl : lv_has ls 2 [(0, .ref h), (1, .int bk)] := hl
  generalize kA (wL17 cI cS h sa p0 aa ab q0 b0 q0 q1 q2 q3 b0 b1 b2 b3 p1 p2 p3 p4 sf old rd tr lf ask shw an pn gr kd pl wt ban bpn bgr bkd bpl bwt al wo fi ni pa) = A at hQ hD hS
  refine lv_iload_n hx hb dX3_back_0 rfl (lv_at hl 1 rfl) ?_
  refine lv_aload_n hx hb dX3_back_1 rfl (lv_at hl 0 rfl) ?_
  refine va_get (D := D) (ci := 3) (v := .int rd) (C := RX3) (T := TX3) (N := 10) hx hb hts (fun _ h => List.mem_cons_of_mem _ (List.mem_append_right _ h)) hown hK.1 hP 0 rfl rfl 7 (by decide) (hts (.fieldLink RX3 161 "LieNights" "readings" "I") (List.mem_of_getElem? (i := 1) rfl)) (fun _ h9 => h9) rfl dX3_back_2 ?_
  refine kPi (va_runS (As := [.int bk, .int rd]) (rest := []) ⟨hx, hb, hml, hown, hts⟩ (c_X3_within l D cI cS bk rd) (va_cwS 2 hts gX3_back_X3_within rfl rfl rfl q_X3_within.2 ⟨Nat.le_of_ble_eq_true rfl, Nat.le_of_ble_eq_true rfl⟩) (kPS hK hP [] rfl [.int bk, .int rd]) rfl rfl hl.1 rfl (lv_room (Nat.le_of_ble_eq_true rfl)) dX3_back_5 ⟨Nat.zero_le _, Nat.zero_le _⟩) ?_
  refine lv_if_ne (tgt := 14) hx hb dX3_back_8 (by decide) (fun c8 => ?_) (fun c8 => ?_)
  · skip
    refine lv_aload_n hx hb dX3_back_14 rfl (lv_at hl 0 rfl) ?_
    refine lv_dup hx hb dX3_back_15 rfl ?_
    refine va_get (D := D) (ci := 3) (v := .int rd) (C := RX3) (T := TX3) (N := 10) hx hb hts (fun _ h => List.mem_cons_of_mem _ (List.mem_append_right _ h)) hown hK.1 hP 0 rfl rfl 7 (by decide) (hts (.fieldLink RX3 161 "LieNights" "readings" "I") (List.mem_of_getElem? (i := 1) rfl)) (fun _ h9 => h9) rfl dX3_back_16 ?_
    refine lv_iload_n hx hb dX3_back_19 rfl (lv_at hl 1 rfl) ?_
    refine lv_isub hx hb dX3_back_20 ?_
    refine va_put (D := D) (ci := 3) (v := .int (rd - bk)) (ty := tyX3 7) (C := RX3) (T := TX3) (N := 10) hx hb hts (fun _ h => List.mem_cons_of_mem _ (List.mem_append_right _ h)) tyX3 tyX3_ok nmX3 hown hK.1 hP hD hS 0 rfl rfl 7 (by decide) (hts (.fieldLink RX3 161 "LieNights" "readings" "I") (List.mem_of_getElem? (i := 1) rfl)) (fun _ h9 => h9) rfl (tyX3_ok 7 (by decide)) rfl rfl (Nat.le_of_ble_eq_true rfl) dX3_back_21 (fun H locs hP hD hS => ?_)
    have hP : va_P D vwCl (wL17 cI cS h sa p0 aa ab q0 b0 q0 q1 q2 q3 b0 b1 b2 b3 p1 p2 p3 p4 sf old (rd - bk) tr lf ask shw an pn gr kd pl wt ban bpn bgr bkd bpl bwt al wo fi ni pa) H := hP
    have hD : va_D A (wL17 cI cS h sa p0 aa ab q0 b0 q0 q1 q2 q3 b0 b1 b2 b3 p1 p2 p3 p4 sf old (rd - bk) tr lf ask shw an pn gr kd pl wt ban bpn bgr bkd bpl bwt al wo fi ni pa) := hD
    refine lv_aload_n hx hb dX3_back_24 rfl (lv_at hl 0 rfl) ?_
    refine va_get (D := D) (ci := 3) (v := .int (rd - bk)) (C := RX3) (T := TX3) (N := 10) hx hb hts (fun _ h => List.mem_cons_of_mem _ (List.mem_append_right _ h)) hown hK.1 hP 0 rfl rfl 7 (by decide) (hts (.fieldLink RX3 161 "LieNights" "readings" "I") (List.mem_of_getElem? (i := 1) rfl)) (fun _ h9 => h9) rfl dX3_back_25 ?_
    have hR1 : (fX3_back rd bk) = ((rd - bk), (rd - bk)) := (by unfold fX3_back; rw [if_neg c8])
    rw [hQ]
    exact W.iret (v := (rd - bk)) hx hb hr (fun t ht hW => ⟨⟨_, (), rfl, (by show _ = _; rw [hR1]), (by show va_P D vwCl _ t.heap; rw [hR1, ht]; exact hP)⟩, hS.F ht⟩) hS.2.2 dX3_back_28
  refine lv_bipush (v := (-2)) hx hb dX3_back_11 (by decide) ?_
  have hR2 : (fX3_back rd bk) = ((-2), rd) := (by unfold fX3_back; rw [if_pos c8])
  rw [hQ]
  exact W.iret (v := (-2)) hx hb hr (fun t ht hW => ⟨⟨_, (), rfl, (by show _ = _; rw [hR2]), (by show va_P D vwCl _ t.heap; rw [hR2, ht]; exact hP)⟩, hS.F ht⟩) hS.2.2 dX3_back_13

def fX3_left (ask shw : Nat → Int32) (an : Int32) (kd pl : Nat → Int32) (N Rn : Nat) : Int32 := (if (fX3_noSecret an) = 0 then (fX3_truths kd pl ask shw N Rn) else (-3))
theorem q_X3_left : yX3_left.cls = RX3 ∧ yX3_left.cls ≠ "java/lang/invoke/MethodHandle" ∧ yX3_left.cls ≠ "java/lang/invoke/VarHandle" ∧ (parseMethodDescriptor yX3_left.desc).map (fun d => d.parameters.length) = some 0 := by decide +kernel
set_option maxHeartbeats 4000000 in
set_option maxRecDepth 100000 in
theorem c_X3_left (l : Launch) (D : va_G) (cI cS : ClassId) (h sa p0 aa ab q0 q1 q2 q3 b0 b1 b2 b3 p1 p2 p3 p4 : Nat) (sf : Nat → Option Nat) (old rd tr lf : Int32) (ask shw : Nat → Int32) (an pn gr : Int32) (kd pl wt : Nat → Int32) (ban bpn bgr : Int32) (bkd bpl bwt al wo fi ni : Nat → Int32) (pa : Int32) (N Rn : Nat) (ha : an = nI N) (hN : N ≤ 6) (hrd : rd = nI Rn) (hRn : Rn ≤ 8) : PMi l yX3_left wsX3_left { frames := 4, cells := 0, slots := 0, locals := 88 } D cI cS (wL17 cI cS h sa p0 aa ab q0 b0 q0 q1 q2 q3 b0 b1 b2 b3 p1 p2 p3 p4 sf old rd tr lf ask shw an pn gr kd pl wt ban bpn bgr bkd bpl bwt al wo fi ni pa) [.ref h] (fX3_left ask shw an kd pl N Rn) := by
  refine kEnter (cc := cX3_left) (maxL := 1) (ret := (some .int)) (by decide) rfl (Nat.le_of_ble_eq_true rfl) ?_
  intro p e s m below meth c ls Qf hQ hx hb hml hr hlocks hown hts hK hP hl
  have hown : s.vm.findClass RX3 = some m.cls := hown
  have hl : lv_has ls 1 [(0, .ref h)] := hl
  refine lv_aload_n hx hb dX3_left_0 rfl (lv_at hl 0 rfl) ?_
  refine kPi (va_runV (As := []) (rest := []) ⟨hx, hb, hml, hown, hts⟩ (c_X3_noSecret l D cI cS h sa p0 aa ab q0 b0 q1 q2 q3 old rd tr lf an pn gr kd pl wt) (cwV 0 hts gX3_left_X3_noSecret rfl rfl rfl q_X3_noSecret ⟨Nat.le_of_ble_eq_true rfl, Nat.le_of_ble_eq_true rfl⟩) (kPV hK hP [0, 4, 5, 6, 7] rfl (va_recv hK.1 hP (ci := 3) (q0 := 0) rfl rfl) []) rfl rfl hl.1 rfl (lv_room (Nat.le_of_ble_eq_true rfl)) dX3_left_1 ⟨Nat.zero_le _, Nat.zero_le _⟩) ?_
  refine lv_if_eq (tgt := 12) hx hb dX3_left_4 (by decide) (fun c4 => ?_) (fun c4 => ?_)
  · skip
    refine lv_aload_n hx hb dX3_left_12 rfl (lv_at hl 0 rfl) ?_
    refine kPi (va_runV (As := []) (rest := []) ⟨hx, hb, hml, hown, hts⟩ (c_X3_truths l D cI cS h sa p0 aa ab q0 b0 q1 q2 q3 old rd tr lf an pn gr kd pl wt ask shw N Rn ha hN hrd hRn) (cwV 0 hts gX3_left_X3_truths rfl rfl rfl q_X3_truths ⟨Nat.le_of_ble_eq_true rfl, Nat.le_of_ble_eq_true rfl⟩) (kPV hK hP [0, 4, 5, 6, 7, 2, 3] rfl (va_recv hK.1 hP (ci := 3) (q0 := 0) rfl rfl) []) rfl rfl hl.1 rfl (lv_room (Nat.le_of_ble_eq_true rfl)) dX3_left_13 ⟨Nat.zero_le _, Nat.zero_le _⟩) ?_
    have hR1 : (fX3_left ask shw an kd pl N Rn) = (fX3_truths kd pl ask shw N Rn) := (by unfold fX3_left; rw [if_pos c4])
    rw [hQ]
    exact W.iret (v := (fX3_truths kd pl ask shw N Rn)) hx hb hr (fun t ht hW => ⟨_, rfl, hR1.symm, ht⟩) (fun q h => by cases h) dX3_left_16
  refine lv_bipush (v := (-3)) hx hb dX3_left_7 (by decide) ?_
  refine lv_goto (tgt := 16) hx hb dX3_left_9 (by decide) ?_
  have hR2 : (fX3_left ask shw an kd pl N Rn) = (-3) := (by unfold fX3_left; rw [if_neg c4])
  rw [hQ]
  exact W.iret (v := (-3)) hx hb hr (fun t ht hW => ⟨_, rfl, hR2.symm, ht⟩) (fun q h => by cases h) dX3_left_16

def aX3_kinds_24 (kd : Nat → Int32) (x v3_24 : Int32) (wkd_24 : Nat → Int32) : (Int32 × (Nat → Int32)) := (v3_24, (fX1_setKind wkd_24 x (fX1_kindOf kd x)))
def sX3_kinds_24 (ask shw pl : Nat → Int32) (N Rn : Nat) (x : Int32) (k24 : Nat) (v3_24 : Int32) (wkd_24 : Nat → Int32) : (Int32 × (Nat → Int32)) := (if (fX3_truths (fX1_setKind wkd_24 x (nI k24)) pl ask shw N Rn) = 0 then (v3_24, (fX1_setKind wkd_24 x (nI k24))) else ((v3_24 ||| (1 <<< ((nI k24) &&& 31))), (fX1_setKind wkd_24 x (nI k24))))
def fX3_kinds (ask shw : Nat → Int32) (an : Int32) (kd pl : Nat → Int32) (N Rn : Nat) (x : Int32) : Int32 × (Nat → Int32) := (if (fX3_isAnswer an x) = 0 then ((-1), kd) else (aX3_kinds_24 kd x ((lp (fun k a => sX3_kinds_24 ask shw pl N Rn x k a.1 a.2) (0, kd) 3).1) ((lp (fun k a => sX3_kinds_24 ask shw pl N Rn x k a.1 a.2) (0, kd) 3).2)))
theorem q_X3_kinds : yX3_kinds.cls = RX3 ∧ yX3_kinds.cls ≠ "java/lang/invoke/MethodHandle" ∧ yX3_kinds.cls ≠ "java/lang/invoke/VarHandle" ∧ (parseMethodDescriptor yX3_kinds.desc).map (fun d => d.parameters.length) = some 1 := by decide +kernel
set_option maxHeartbeats 4000000 in
set_option maxRecDepth 100000 in
theorem c_X3_kinds (l : Launch) (D : va_G) (cI cS : ClassId) (h sa p0 aa ab q0 q1 q2 q3 b0 b1 b2 b3 p1 p2 p3 p4 : Nat) (sf : Nat → Option Nat) (old rd tr lf : Int32) (ask shw : Nat → Int32) (an pn gr : Int32) (kd pl wt : Nat → Int32) (ban bpn bgr : Int32) (bkd bpl bwt al wo fi ni : Nat → Int32) (pa : Int32) (N Rn : Nat) (x : Int32) (ha : an = nI N) (hN : N ≤ 6) (hrd : rd = nI Rn) (hRn : Rn ≤ 8) : MMi l yX3_kinds wsX3_kinds { frames := 4, cells := 0, slots := 0, locals := 88 } D cI cS (wL17 cI cS h sa p0 aa ab q0 b0 q0 q1 q2 q3 b0 b1 b2 b3 p1 p2 p3 p4 sf old rd tr lf ask shw an pn gr kd pl wt ban bpn bgr bkd bpl bwt al wo fi ni pa) [.ref h, .int x] ((fX3_kinds ask shw an kd pl N Rn x).1) (wL17 cI cS h sa p0 aa ab q0 b0 q0 q1 q2 q3 b0 b1 b2 b3 p1 p2 p3 p4 sf old rd tr lf ask shw an pn gr ((fX3_kinds ask shw an kd pl N Rn x).2) pl wt ban bpn bgr bkd bpl bwt al wo fi ni pa) := by
  refine kEnterM (cc := cX3_kinds) (maxL := 5) (ret := (some .int)) (by decide) rfl (Nat.le_of_ble_eq_true rfl) ?_
  intro p e s m below meth c ls Qf hQ hx hb hml hr hlocks hown hts hK hP hD hS hl
  have hown : s.vm.findClass RX3 = some m.cls := hown
  have hl : lv_has ls 5 [(0, .ref h), (1, .int x)] := hl
  generalize kA (wL17 cI cS h sa p0 aa ab q0 b0 q0 q1 q2 q3 b0 b1 b2 b3 p1 p2 p3 p4 sf old rd tr lf ask shw an pn gr kd pl wt ban bpn bgr bkd bpl bwt al wo fi ni pa) = A at hQ hD hS
  refine lv_aload_n hx hb dX3_kinds_0 rfl (lv_at hl 0 rfl) ?_
  refine lv_iload_n hx hb dX3_kinds_1 rfl (lv_at hl 1 rfl) ?_
  refine kPi (va_runV (As := [.int x]) (rest := []) ⟨hx, hb, hml, hown, hts⟩ (c_X3_isAnswer l D cI cS h sa p0 aa ab q0 b0 q1 q2 q3 old rd tr lf an pn gr kd pl wt x) (cwV 1 hts gX3_kinds_X3_isAnswer rfl rfl rfl q_X3_isAnswer ⟨Nat.le_of_ble_eq_true rfl, Nat.le_of_ble_eq_true rfl⟩) (kPV hK hP [0, 4, 5, 6, 7] rfl (va_recv hK.1 hP (ci := 3) (q0 := 0) rfl rfl) [.int x]) rfl rfl hl.1 rfl (lv_room (Nat.le_of_ble_eq_true rfl)) dX3_kinds_2 ⟨Nat.zero_le _, Nat.zero_le _⟩) ?_
  refine lv_if_ne (tgt := 10) hx hb dX3_kinds_5 (by decide) (fun c5 => ?_) (fun c5 => ?_)
  · skip
    refine lv_aload_n hx hb dX3_kinds_10 rfl (lv_at hl 0 rfl) ?_
    refine va_get (D := D) (ci := 3) (v := .ref q0) (C := RX3) (T := TX3) (N := 10) hx hb hts (fun _ h => List.mem_cons_of_mem _ (List.mem_append_left _ (List.mem_append_right _ h))) hown hK.1 hP 0 rfl rfl 4 (by decide) (hts (.fieldLink RX3 34 "LieNights" "secret" "LLieNights$Secret;") (List.mem_of_getElem? (i := 1) rfl)) (fun _ h9 => h9) rfl dX3_kinds_11 ?_
    refine lv_iload_n hx hb dX3_kinds_14 rfl (lv_at hl 1 rfl) ?_
    refine kPi (va_runV (As := [.int x]) (rest := []) ⟨hx, hb, hml, hown, hts⟩ (c_X1_kindOf l D cI cS q0 q1 q2 q3 an pn gr kd pl wt x) (cwV 1 hts gX3_kinds_X1_kindOf rfl rfl rfl q_X1_kindOf ⟨Nat.le_of_ble_eq_true rfl, Nat.le_of_ble_eq_true rfl⟩) (kPV hK hP [4, 5, 6, 7] rfl (va_recv hK.1 hP (ci := 1) (q0 := 4) rfl rfl) [.int x]) rfl rfl hl.1 rfl (lv_room (Nat.le_of_ble_eq_true rfl)) dX3_kinds_15 ⟨Nat.zero_le _, Nat.zero_le _⟩) ?_
    refine lv_istore_n (lv' := [(2, .int (fX1_kindOf kd x)), (0, .ref h), (1, .int x)]) hx hb dX3_kinds_18 rfl hl (by decide) rfl (fun ls hl => ?_)
    refine lv_iconst (v := 0) hx hb dX3_kinds_19 (by decide) ?_
    refine lv_istore_n (lv' := [(3, .int 0), (2, .int (fX1_kindOf kd x)), (0, .ref h), (1, .int x)]) hx hb dX3_kinds_20 rfl hl (by decide) rfl (fun ls hl => ?_)
    refine lv_iconst (v := 0) hx hb dX3_kinds_21 (by decide) ?_
    refine lv_istore (lv' := [(4, .int 0), (3, .int 0), (2, .int (fX1_kindOf kd x)), (0, .ref h), (1, .int x)]) hx hb dX3_kinds_22 hl (by decide) rfl (fun ls hl => ?_)
    have hR1 : (fX3_kinds ask shw an kd pl N Rn x) = (aX3_kinds_24 kd x ((lp (fun k a => sX3_kinds_24 ask shw pl N Rn x k a.1 a.2) (0, kd) 3).1) ((lp (fun k a => sX3_kinds_24 ask shw pl N Rn x k a.1 a.2) (0, kd) 3).2)) := (by unfold fX3_kinds; rw [if_neg c5])
    have loop24 : ∀ (n k24 : Nat), k24 ≤ 3 → 3 + 1 ≤ k24 + n → ∀ (v3_24 : Int32) (wkd_24 : Nat → Int32), lp (fun k a => sX3_kinds_24 ask shw pl N Rn x k a.1 a.2) (0, kd) k24 = (v3_24, wkd_24) →  ∀ (H : Heap) (locs : List Loc), va_P D vwCl (wL17 cI cS h sa p0 aa ab q0 b0 q0 q1 q2 q3 b0 b1 b2 b3 p1 p2 p3 p4 sf old rd tr lf ask shw an pn gr wkd_24 pl wt ban bpn bgr bkd bpl bwt al wo fi ni pa) H → va_D A (wL17 cI cS h sa p0 aa ab q0 b0 q0 q1 q2 q3 b0 b1 b2 b3 p1 p2 p3 p4 sf old rd tr lf ask shw an pn gr wkd_24 pl wt ban bpn bgr bkd bpl bwt al wo fi ni pa) → va_S A s.heap H locs → ∀ (ls : Array Slot), lv_has ls 5 [(0, .ref h), (1, .int x), (2, .int (fX1_kindOf kd x)), (3, .int v3_24), (4, .int (nI k24))] → W p l e { frames := 4, cells := 0, slots := 0, locals := 88 } s m ([.ref h, .int x] : List Value).toArray below meth c H locs 0 0 Qf (F0 m 24 ls []) := by
      intro n
      induction n with
      | zero => intro k24 h1 h2; exact absurd h2 (by omega)
      | succ n ih =>
        intro k24 hk24 hn24 v3_24 wkd_24 hacc24  H locs hP hD hS ls hl
        have ih24 := ih
        refine lv_iload hx hb dX3_kinds_24 (lv_at hl 4 rfl) ?_
        refine lv_iconst (v := 2) hx hb dX3_kinds_26 (by decide) ?_
        refine lv_icmp_gt (tgt := 60) hx hb dX3_kinds_27 (by decide) (fun c27 => ?_) (fun c27 => ?_)
        · skip
          have hkN : k24 = 3 := (kEndG (N := 2) hk24 rfl rfl (by omega) c27)
          rw [hkN] at hacc24
          have hR2 : (fX3_kinds ask shw an kd pl N Rn x) = aX3_kinds_24 kd x v3_24 wkd_24 := hR1.trans (lp_end (x := (v3_24, wkd_24)) (g := (fun a => aX3_kinds_24 kd x a.1 a.2)) hacc24)
          refine lv_aload_n hx hb dX3_kinds_60 rfl (lv_at hl 0 rfl) ?_
          refine va_get (D := D) (ci := 3) (v := .ref q0) (C := RX3) (T := TX3) (N := 10) hx hb hts (fun _ h => List.mem_cons_of_mem _ (List.mem_append_left _ (List.mem_append_right _ h))) hown hK.1 hP 0 rfl rfl 4 (by decide) (hts (.fieldLink RX3 34 "LieNights" "secret" "LLieNights$Secret;") (List.mem_of_getElem? (i := 1) rfl)) (fun _ h9 => h9) rfl dX3_kinds_61 ?_
          refine lv_iload_n hx hb dX3_kinds_64 rfl (lv_at hl 1 rfl) ?_
          refine lv_iload_n hx hb dX3_kinds_65 rfl (lv_at hl 2 rfl) ?_
          refine kMv (wl' := (wL17 cI cS h sa p0 aa ab q0 b0 q0 q1 q2 q3 b0 b1 b2 b3 p1 p2 p3 p4 sf old rd tr lf ask shw an pn gr (fX1_setKind wkd_24 x (fX1_kindOf kd x)) pl wt ban bpn bgr bkd bpl bwt al wo fi ni pa)) (wc := (wSec cI q0 q1 q2 q3 an pn gr wkd_24 pl wt)) (w1 := (wSec cI q0 q1 q2 q3 an pn gr (fX1_setKind wkd_24 x (fX1_kindOf kd x)) pl wt)) hP hD hS [4, 5, 6, 7] rfl rfl rfl (va_runV (As := [.int x, .int (fX1_kindOf kd x)]) (rest := []) ⟨hx, hb, hml, hown, hts⟩ (c_X1_setKind l D cI cS q0 q1 q2 q3 an pn gr wkd_24 pl wt x (fX1_kindOf kd x)) (cwV 2 hts gX3_kinds_X1_setKind rfl rfl rfl q_X1_setKind ⟨Nat.le_of_ble_eq_true rfl, Nat.le_of_ble_eq_true rfl⟩) (kMV hK hP hD [4, 5, 6, 7] rfl rfl (va_recv hK.1 hP (ci := 1) (q0 := 4) rfl rfl) [.int x, .int (fX1_kindOf kd x)]) rfl rfl hl.1 rfl (lv_room (Nat.le_of_ble_eq_true rfl)) dX3_kinds_66 ⟨Nat.zero_le _, Nat.zero_le _⟩) (fun H locs hP hD hS => ?_)
          refine lv_iload_n hx hb dX3_kinds_69 rfl (lv_at hl 3 rfl) ?_
          have hR3 : (fX3_kinds ask shw an kd pl N Rn x) = (v3_24, (fX1_setKind wkd_24 x (fX1_kindOf kd x))) := hR2.trans rfl
          rw [hQ]
          exact W.iret (v := v3_24) hx hb hr (fun t ht hW => ⟨⟨_, (), rfl, (by show _ = _; rw [hR3]), (by show va_P D vwCl _ t.heap; rw [hR3, ht]; exact hP)⟩, hS.F ht⟩) hS.2.2 dX3_kinds_70
        have hlt24 : k24 < 3 := (kLtG (N := 2) hk24 rfl rfl (by omega) c27)
        refine lv_aload_n hx hb dX3_kinds_30 rfl (lv_at hl 0 rfl) ?_
        refine va_get (D := D) (ci := 3) (v := .ref q0) (C := RX3) (T := TX3) (N := 10) hx hb hts (fun _ h => List.mem_cons_of_mem _ (List.mem_append_left _ (List.mem_append_right _ h))) hown hK.1 hP 0 rfl rfl 4 (by decide) (hts (.fieldLink RX3 34 "LieNights" "secret" "LLieNights$Secret;") (List.mem_of_getElem? (i := 1) rfl)) (fun _ h9 => h9) rfl dX3_kinds_31 ?_
        refine lv_iload_n hx hb dX3_kinds_34 rfl (lv_at hl 1 rfl) ?_
        refine lv_iload hx hb dX3_kinds_35 (lv_at hl 4 rfl) ?_
        refine kMv (wl' := (wL17 cI cS h sa p0 aa ab q0 b0 q0 q1 q2 q3 b0 b1 b2 b3 p1 p2 p3 p4 sf old rd tr lf ask shw an pn gr (fX1_setKind wkd_24 x (nI k24)) pl wt ban bpn bgr bkd bpl bwt al wo fi ni pa)) (wc := (wSec cI q0 q1 q2 q3 an pn gr wkd_24 pl wt)) (w1 := (wSec cI q0 q1 q2 q3 an pn gr (fX1_setKind wkd_24 x (nI k24)) pl wt)) hP hD hS [4, 5, 6, 7] rfl rfl rfl (va_runV (As := [.int x, .int (nI k24)]) (rest := []) ⟨hx, hb, hml, hown, hts⟩ (c_X1_setKind l D cI cS q0 q1 q2 q3 an pn gr wkd_24 pl wt x (nI k24)) (cwV 2 hts gX3_kinds_X1_setKind rfl rfl rfl q_X1_setKind ⟨Nat.le_of_ble_eq_true rfl, Nat.le_of_ble_eq_true rfl⟩) (kMV hK hP hD [4, 5, 6, 7] rfl rfl (va_recv hK.1 hP (ci := 1) (q0 := 4) rfl rfl) [.int x, .int (nI k24)]) rfl rfl hl.1 rfl (lv_room (Nat.le_of_ble_eq_true rfl)) dX3_kinds_37 ⟨Nat.zero_le _, Nat.zero_le _⟩) (fun H locs hP hD hS => ?_)
        refine lv_aload_n hx hb dX3_kinds_40 rfl (lv_at hl 0 rfl) ?_
        refine kPi (va_runV (As := []) (rest := []) ⟨hx, hb, hml, hown, hts⟩ (c_X3_truths l D cI cS h sa p0 aa ab q0 b0 q1 q2 q3 old rd tr lf an pn gr (fX1_setKind wkd_24 x (nI k24)) pl wt ask shw N Rn ha hN hrd hRn) (cwV 0 hts gX3_kinds_X3_truths rfl rfl rfl q_X3_truths ⟨Nat.le_of_ble_eq_true rfl, Nat.le_of_ble_eq_true rfl⟩) (kPV hK hP [0, 4, 5, 6, 7, 2, 3] rfl (va_recv hK.1 hP (ci := 3) (q0 := 0) rfl rfl) []) rfl rfl hl.1 rfl (lv_room (Nat.le_of_ble_eq_true rfl)) dX3_kinds_41 ⟨Nat.zero_le _, Nat.zero_le _⟩) ?_
        refine lv_if_eq (tgt := 54) hx hb dX3_kinds_44 (by decide) (fun c44 => ?_) (fun c44 => ?_)
        · skip
          refine lv_iinc (v := (nI (k24 + 1))) (lv' := [(4, .int (nI (k24 + 1))), (0, .ref h), (1, .int x), (2, .int (fX1_kindOf kd x)), (3, .int v3_24)]) hx hb dX3_kinds_54 hl (k := 4) rfl (nI_1 (k24)) (by decide) rfl (fun ls hl => ?_)
          refine lv_goto (tgt := 24) hx hb dX3_kinds_57 (by decide) ?_
          have hR4 : sX3_kinds_24 ask shw pl N Rn x k24 v3_24 wkd_24 = (v3_24, (fX1_setKind wkd_24 x (nI k24))) := (by unfold sX3_kinds_24; rw [if_pos c44])
          exact ih24 (k24 + 1) hlt24 (by omega) _ _ (lp_next hacc24 hR4)  _ _ hP hD hS ls (lv_sub hl [1, 2, 3, 4, 0] rfl)
        refine lv_iload_n hx hb dX3_kinds_47 rfl (lv_at hl 3 rfl) ?_
        refine lv_iconst (v := 1) hx hb dX3_kinds_48 (by decide) ?_
        refine lv_iload hx hb dX3_kinds_49 (lv_at hl 4 rfl) ?_
        refine lv_ishl hx hb dX3_kinds_51 ?_
        refine lv_ior hx hb dX3_kinds_52 ?_
        refine lv_istore_n (lv' := [(3, .int (v3_24 ||| (1 <<< ((nI k24) &&& 31)))), (0, .ref h), (1, .int x), (2, .int (fX1_kindOf kd x)), (4, .int (nI k24))]) hx hb dX3_kinds_53 rfl hl (by decide) rfl (fun ls hl => ?_)
        refine lv_iinc (v := (nI (k24 + 1))) (lv' := [(4, .int (nI (k24 + 1))), (3, .int (v3_24 ||| (1 <<< ((nI k24) &&& 31)))), (0, .ref h), (1, .int x), (2, .int (fX1_kindOf kd x))]) hx hb dX3_kinds_54 hl (k := 4) rfl (nI_1 (k24)) (by decide) rfl (fun ls hl => ?_)
        refine lv_goto (tgt := 24) hx hb dX3_kinds_57 (by decide) ?_
        have hR5 : sX3_kinds_24 ask shw pl N Rn x k24 v3_24 wkd_24 = ((v3_24 ||| (1 <<< ((nI k24) &&& 31))), (fX1_setKind wkd_24 x (nI k24))) := (by unfold sX3_kinds_24; rw [if_neg c44])
        exact ih24 (k24 + 1) hlt24 (by omega) _ _ (lp_next hacc24 hR5)  _ _ hP hD hS ls (lv_sub hl [2, 3, 4, 1, 0] rfl)
    exact loop24 (3 + 1) 0 (Nat.zero_le _) (by omega) _ _ rfl  _ _ hP hD hS ls (lv_sub hl [3, 4, 2, 1, 0] rfl)
  refine lv_iconst (v := (-1)) hx hb dX3_kinds_8 (by decide) ?_
  have hR6 : (fX3_kinds ask shw an kd pl N Rn x) = ((-1), kd) := (by unfold fX3_kinds; rw [if_pos c5])
  rw [hQ]
  exact W.iret (v := (-1)) hx hb hr (fun t ht hW => ⟨⟨_, (), rfl, (by show _ = _; rw [hR6]), (by show va_P D vwCl _ t.heap; rw [hR6, ht]; exact hP)⟩, hS.F ht⟩) hS.2.2 dX3_kinds_9

def aX3_places_24 (pl : Nat → Int32) (x v3_24 : Int32) (wpl_24 : Nat → Int32) : (Int32 × (Nat → Int32)) := (v3_24, (fX1_setPlace wpl_24 x (fX1_placeOf pl x)))
def sX3_places_24 (ask shw kd : Nat → Int32) (N Rn : Nat) (x : Int32) (k24 : Nat) (v3_24 : Int32) (wpl_24 : Nat → Int32) : (Int32 × (Nat → Int32)) := (if (fX3_truths kd (fX1_setPlace wpl_24 x (nI k24)) ask shw N Rn) = 0 then (v3_24, (fX1_setPlace wpl_24 x (nI k24))) else ((v3_24 ||| (1 <<< ((nI k24) &&& 31))), (fX1_setPlace wpl_24 x (nI k24))))
def fX3_places (ask shw : Nat → Int32) (an : Int32) (kd pl : Nat → Int32) (N Rn : Nat) (x : Int32) : Int32 × (Nat → Int32) := (if (fX3_isAnswer an x) = 0 then ((-1), pl) else (aX3_places_24 pl x ((lp (fun k a => sX3_places_24 ask shw kd N Rn x k a.1 a.2) (0, pl) 10).1) ((lp (fun k a => sX3_places_24 ask shw kd N Rn x k a.1 a.2) (0, pl) 10).2)))
theorem q_X3_places : yX3_places.cls = RX3 ∧ yX3_places.cls ≠ "java/lang/invoke/MethodHandle" ∧ yX3_places.cls ≠ "java/lang/invoke/VarHandle" ∧ (parseMethodDescriptor yX3_places.desc).map (fun d => d.parameters.length) = some 1 := by decide +kernel
set_option maxHeartbeats 4000000 in
set_option maxRecDepth 100000 in
theorem c_X3_places (l : Launch) (D : va_G) (cI cS : ClassId) (h sa p0 aa ab q0 q1 q2 q3 b0 b1 b2 b3 p1 p2 p3 p4 : Nat) (sf : Nat → Option Nat) (old rd tr lf : Int32) (ask shw : Nat → Int32) (an pn gr : Int32) (kd pl wt : Nat → Int32) (ban bpn bgr : Int32) (bkd bpl bwt al wo fi ni : Nat → Int32) (pa : Int32) (N Rn : Nat) (x : Int32) (ha : an = nI N) (hN : N ≤ 6) (hrd : rd = nI Rn) (hRn : Rn ≤ 8) : MMi l yX3_places wsX3_places { frames := 4, cells := 0, slots := 0, locals := 88 } D cI cS (wL17 cI cS h sa p0 aa ab q0 b0 q0 q1 q2 q3 b0 b1 b2 b3 p1 p2 p3 p4 sf old rd tr lf ask shw an pn gr kd pl wt ban bpn bgr bkd bpl bwt al wo fi ni pa) [.ref h, .int x] ((fX3_places ask shw an kd pl N Rn x).1) (wL17 cI cS h sa p0 aa ab q0 b0 q0 q1 q2 q3 b0 b1 b2 b3 p1 p2 p3 p4 sf old rd tr lf ask shw an pn gr kd ((fX3_places ask shw an kd pl N Rn x).2) wt ban bpn bgr bkd bpl bwt al wo fi ni pa) := by
  refine kEnterM (cc := cX3_places) (maxL := 5) (ret := (some .int)) (by decide) rfl (Nat.le_of_ble_eq_true rfl) ?_
  intro p e s m below meth c ls Qf hQ hx hb hml hr hlocks hown hts hK hP hD hS hl
  have hown : s.vm.findClass RX3 = some m.cls := hown
  have hl : lv_has ls 5 [(0, .ref h), (1, .int x)] := hl
  generalize kA (wL17 cI cS h sa p0 aa ab q0 b0 q0 q1 q2 q3 b0 b1 b2 b3 p1 p2 p3 p4 sf old rd tr lf ask shw an pn gr kd pl wt ban bpn bgr bkd bpl bwt al wo fi ni pa) = A at hQ hD hS
  refine lv_aload_n hx hb dX3_places_0 rfl (lv_at hl 0 rfl) ?_
  refine lv_iload_n hx hb dX3_places_1 rfl (lv_at hl 1 rfl) ?_
  refine kPi (va_runV (As := [.int x]) (rest := []) ⟨hx, hb, hml, hown, hts⟩ (c_X3_isAnswer l D cI cS h sa p0 aa ab q0 b0 q1 q2 q3 old rd tr lf an pn gr kd pl wt x) (cwV 1 hts gX3_places_X3_isAnswer rfl rfl rfl q_X3_isAnswer ⟨Nat.le_of_ble_eq_true rfl, Nat.le_of_ble_eq_true rfl⟩) (kPV hK hP [0, 4, 5, 6, 7] rfl (va_recv hK.1 hP (ci := 3) (q0 := 0) rfl rfl) [.int x]) rfl rfl hl.1 rfl (lv_room (Nat.le_of_ble_eq_true rfl)) dX3_places_2 ⟨Nat.zero_le _, Nat.zero_le _⟩) ?_
  refine lv_if_ne (tgt := 10) hx hb dX3_places_5 (by decide) (fun c5 => ?_) (fun c5 => ?_)
  · skip
    refine lv_aload_n hx hb dX3_places_10 rfl (lv_at hl 0 rfl) ?_
    refine va_get (D := D) (ci := 3) (v := .ref q0) (C := RX3) (T := TX3) (N := 10) hx hb hts (fun _ h => List.mem_cons_of_mem _ (List.mem_append_left _ (List.mem_append_right _ h))) hown hK.1 hP 0 rfl rfl 4 (by decide) (hts (.fieldLink RX3 34 "LieNights" "secret" "LLieNights$Secret;") (List.mem_of_getElem? (i := 1) rfl)) (fun _ h9 => h9) rfl dX3_places_11 ?_
    refine lv_iload_n hx hb dX3_places_14 rfl (lv_at hl 1 rfl) ?_
    refine kPi (va_runV (As := [.int x]) (rest := []) ⟨hx, hb, hml, hown, hts⟩ (c_X1_placeOf l D cI cS q0 q1 q2 q3 an pn gr kd pl wt x) (cwV 1 hts gX3_places_X1_placeOf rfl rfl rfl q_X1_placeOf ⟨Nat.le_of_ble_eq_true rfl, Nat.le_of_ble_eq_true rfl⟩) (kPV hK hP [4, 5, 6, 7] rfl (va_recv hK.1 hP (ci := 1) (q0 := 4) rfl rfl) [.int x]) rfl rfl hl.1 rfl (lv_room (Nat.le_of_ble_eq_true rfl)) dX3_places_15 ⟨Nat.zero_le _, Nat.zero_le _⟩) ?_
    refine lv_istore_n (lv' := [(2, .int (fX1_placeOf pl x)), (0, .ref h), (1, .int x)]) hx hb dX3_places_18 rfl hl (by decide) rfl (fun ls hl => ?_)
    refine lv_iconst (v := 0) hx hb dX3_places_19 (by decide) ?_
    refine lv_istore_n (lv' := [(3, .int 0), (2, .int (fX1_placeOf pl x)), (0, .ref h), (1, .int x)]) hx hb dX3_places_20 rfl hl (by decide) rfl (fun ls hl => ?_)
    refine lv_iconst (v := 0) hx hb dX3_places_21 (by decide) ?_
    refine lv_istore (lv' := [(4, .int 0), (3, .int 0), (2, .int (fX1_placeOf pl x)), (0, .ref h), (1, .int x)]) hx hb dX3_places_22 hl (by decide) rfl (fun ls hl => ?_)
    have hR1 : (fX3_places ask shw an kd pl N Rn x) = (aX3_places_24 pl x ((lp (fun k a => sX3_places_24 ask shw kd N Rn x k a.1 a.2) (0, pl) 10).1) ((lp (fun k a => sX3_places_24 ask shw kd N Rn x k a.1 a.2) (0, pl) 10).2)) := (by unfold fX3_places; rw [if_neg c5])
    have loop24 : ∀ (n k24 : Nat), k24 ≤ 10 → 10 + 1 ≤ k24 + n → ∀ (v3_24 : Int32) (wpl_24 : Nat → Int32), lp (fun k a => sX3_places_24 ask shw kd N Rn x k a.1 a.2) (0, pl) k24 = (v3_24, wpl_24) →  ∀ (H : Heap) (locs : List Loc), va_P D vwCl (wL17 cI cS h sa p0 aa ab q0 b0 q0 q1 q2 q3 b0 b1 b2 b3 p1 p2 p3 p4 sf old rd tr lf ask shw an pn gr kd wpl_24 wt ban bpn bgr bkd bpl bwt al wo fi ni pa) H → va_D A (wL17 cI cS h sa p0 aa ab q0 b0 q0 q1 q2 q3 b0 b1 b2 b3 p1 p2 p3 p4 sf old rd tr lf ask shw an pn gr kd wpl_24 wt ban bpn bgr bkd bpl bwt al wo fi ni pa) → va_S A s.heap H locs → ∀ (ls : Array Slot), lv_has ls 5 [(0, .ref h), (1, .int x), (2, .int (fX1_placeOf pl x)), (3, .int v3_24), (4, .int (nI k24))] → W p l e { frames := 4, cells := 0, slots := 0, locals := 88 } s m ([.ref h, .int x] : List Value).toArray below meth c H locs 0 0 Qf (F0 m 24 ls []) := by
      intro n
      induction n with
      | zero => intro k24 h1 h2; exact absurd h2 (by omega)
      | succ n ih =>
        intro k24 hk24 hn24 v3_24 wpl_24 hacc24  H locs hP hD hS ls hl
        have ih24 := ih
        refine lv_iload hx hb dX3_places_24 (lv_at hl 4 rfl) ?_
        refine lv_bipush (v := 9) hx hb dX3_places_26 (by decide) ?_
        refine lv_icmp_gt (tgt := 61) hx hb dX3_places_28 (by decide) (fun c28 => ?_) (fun c28 => ?_)
        · skip
          have hkN : k24 = 10 := (kEndG (N := 9) hk24 rfl rfl (by omega) c28)
          rw [hkN] at hacc24
          have hR2 : (fX3_places ask shw an kd pl N Rn x) = aX3_places_24 pl x v3_24 wpl_24 := hR1.trans (lp_end (x := (v3_24, wpl_24)) (g := (fun a => aX3_places_24 pl x a.1 a.2)) hacc24)
          refine lv_aload_n hx hb dX3_places_61 rfl (lv_at hl 0 rfl) ?_
          refine va_get (D := D) (ci := 3) (v := .ref q0) (C := RX3) (T := TX3) (N := 10) hx hb hts (fun _ h => List.mem_cons_of_mem _ (List.mem_append_left _ (List.mem_append_right _ h))) hown hK.1 hP 0 rfl rfl 4 (by decide) (hts (.fieldLink RX3 34 "LieNights" "secret" "LLieNights$Secret;") (List.mem_of_getElem? (i := 1) rfl)) (fun _ h9 => h9) rfl dX3_places_62 ?_
          refine lv_iload_n hx hb dX3_places_65 rfl (lv_at hl 1 rfl) ?_
          refine lv_iload_n hx hb dX3_places_66 rfl (lv_at hl 2 rfl) ?_
          refine kMv (wl' := (wL17 cI cS h sa p0 aa ab q0 b0 q0 q1 q2 q3 b0 b1 b2 b3 p1 p2 p3 p4 sf old rd tr lf ask shw an pn gr kd (fX1_setPlace wpl_24 x (fX1_placeOf pl x)) wt ban bpn bgr bkd bpl bwt al wo fi ni pa)) (wc := (wSec cI q0 q1 q2 q3 an pn gr kd wpl_24 wt)) (w1 := (wSec cI q0 q1 q2 q3 an pn gr kd (fX1_setPlace wpl_24 x (fX1_placeOf pl x)) wt)) hP hD hS [4, 5, 6, 7] rfl rfl rfl (va_runV (As := [.int x, .int (fX1_placeOf pl x)]) (rest := []) ⟨hx, hb, hml, hown, hts⟩ (c_X1_setPlace l D cI cS q0 q1 q2 q3 an pn gr kd wpl_24 wt x (fX1_placeOf pl x)) (cwV 2 hts gX3_places_X1_setPlace rfl rfl rfl q_X1_setPlace ⟨Nat.le_of_ble_eq_true rfl, Nat.le_of_ble_eq_true rfl⟩) (kMV hK hP hD [4, 5, 6, 7] rfl rfl (va_recv hK.1 hP (ci := 1) (q0 := 4) rfl rfl) [.int x, .int (fX1_placeOf pl x)]) rfl rfl hl.1 rfl (lv_room (Nat.le_of_ble_eq_true rfl)) dX3_places_67 ⟨Nat.zero_le _, Nat.zero_le _⟩) (fun H locs hP hD hS => ?_)
          refine lv_iload_n hx hb dX3_places_70 rfl (lv_at hl 3 rfl) ?_
          have hR3 : (fX3_places ask shw an kd pl N Rn x) = (v3_24, (fX1_setPlace wpl_24 x (fX1_placeOf pl x))) := hR2.trans rfl
          rw [hQ]
          exact W.iret (v := v3_24) hx hb hr (fun t ht hW => ⟨⟨_, (), rfl, (by show _ = _; rw [hR3]), (by show va_P D vwCl _ t.heap; rw [hR3, ht]; exact hP)⟩, hS.F ht⟩) hS.2.2 dX3_places_71
        have hlt24 : k24 < 10 := (kLtG (N := 9) hk24 rfl rfl (by omega) c28)
        refine lv_aload_n hx hb dX3_places_31 rfl (lv_at hl 0 rfl) ?_
        refine va_get (D := D) (ci := 3) (v := .ref q0) (C := RX3) (T := TX3) (N := 10) hx hb hts (fun _ h => List.mem_cons_of_mem _ (List.mem_append_left _ (List.mem_append_right _ h))) hown hK.1 hP 0 rfl rfl 4 (by decide) (hts (.fieldLink RX3 34 "LieNights" "secret" "LLieNights$Secret;") (List.mem_of_getElem? (i := 1) rfl)) (fun _ h9 => h9) rfl dX3_places_32 ?_
        refine lv_iload_n hx hb dX3_places_35 rfl (lv_at hl 1 rfl) ?_
        refine lv_iload hx hb dX3_places_36 (lv_at hl 4 rfl) ?_
        refine kMv (wl' := (wL17 cI cS h sa p0 aa ab q0 b0 q0 q1 q2 q3 b0 b1 b2 b3 p1 p2 p3 p4 sf old rd tr lf ask shw an pn gr kd (fX1_setPlace wpl_24 x (nI k24)) wt ban bpn bgr bkd bpl bwt al wo fi ni pa)) (wc := (wSec cI q0 q1 q2 q3 an pn gr kd wpl_24 wt)) (w1 := (wSec cI q0 q1 q2 q3 an pn gr kd (fX1_setPlace wpl_24 x (nI k24)) wt)) hP hD hS [4, 5, 6, 7] rfl rfl rfl (va_runV (As := [.int x, .int (nI k24)]) (rest := []) ⟨hx, hb, hml, hown, hts⟩ (c_X1_setPlace l D cI cS q0 q1 q2 q3 an pn gr kd wpl_24 wt x (nI k24)) (cwV 2 hts gX3_places_X1_setPlace rfl rfl rfl q_X1_setPlace ⟨Nat.le_of_ble_eq_true rfl, Nat.le_of_ble_eq_true rfl⟩) (kMV hK hP hD [4, 5, 6, 7] rfl rfl (va_recv hK.1 hP (ci := 1) (q0 := 4) rfl rfl) [.int x, .int (nI k24)]) rfl rfl hl.1 rfl (lv_room (Nat.le_of_ble_eq_true rfl)) dX3_places_38 ⟨Nat.zero_le _, Nat.zero_le _⟩) (fun H locs hP hD hS => ?_)
        refine lv_aload_n hx hb dX3_places_41 rfl (lv_at hl 0 rfl) ?_
        refine kPi (va_runV (As := []) (rest := []) ⟨hx, hb, hml, hown, hts⟩ (c_X3_truths l D cI cS h sa p0 aa ab q0 b0 q1 q2 q3 old rd tr lf an pn gr kd (fX1_setPlace wpl_24 x (nI k24)) wt ask shw N Rn ha hN hrd hRn) (cwV 0 hts gX3_places_X3_truths rfl rfl rfl q_X3_truths ⟨Nat.le_of_ble_eq_true rfl, Nat.le_of_ble_eq_true rfl⟩) (kPV hK hP [0, 4, 5, 6, 7, 2, 3] rfl (va_recv hK.1 hP (ci := 3) (q0 := 0) rfl rfl) []) rfl rfl hl.1 rfl (lv_room (Nat.le_of_ble_eq_true rfl)) dX3_places_42 ⟨Nat.zero_le _, Nat.zero_le _⟩) ?_
        refine lv_if_eq (tgt := 55) hx hb dX3_places_45 (by decide) (fun c45 => ?_) (fun c45 => ?_)
        · skip
          refine lv_iinc (v := (nI (k24 + 1))) (lv' := [(4, .int (nI (k24 + 1))), (0, .ref h), (1, .int x), (2, .int (fX1_placeOf pl x)), (3, .int v3_24)]) hx hb dX3_places_55 hl (k := 4) rfl (nI_1 (k24)) (by decide) rfl (fun ls hl => ?_)
          refine lv_goto (tgt := 24) hx hb dX3_places_58 (by decide) ?_
          have hR4 : sX3_places_24 ask shw kd N Rn x k24 v3_24 wpl_24 = (v3_24, (fX1_setPlace wpl_24 x (nI k24))) := (by unfold sX3_places_24; rw [if_pos c45])
          exact ih24 (k24 + 1) hlt24 (by omega) _ _ (lp_next hacc24 hR4)  _ _ hP hD hS ls (lv_sub hl [1, 2, 3, 4, 0] rfl)
        refine lv_iload_n hx hb dX3_places_48 rfl (lv_at hl 3 rfl) ?_
        refine lv_iconst (v := 1) hx hb dX3_places_49 (by decide) ?_
        refine lv_iload hx hb dX3_places_50 (lv_at hl 4 rfl) ?_
        refine lv_ishl hx hb dX3_places_52 ?_
        refine lv_ior hx hb dX3_places_53 ?_
        refine lv_istore_n (lv' := [(3, .int (v3_24 ||| (1 <<< ((nI k24) &&& 31)))), (0, .ref h), (1, .int x), (2, .int (fX1_placeOf pl x)), (4, .int (nI k24))]) hx hb dX3_places_54 rfl hl (by decide) rfl (fun ls hl => ?_)
        refine lv_iinc (v := (nI (k24 + 1))) (lv' := [(4, .int (nI (k24 + 1))), (3, .int (v3_24 ||| (1 <<< ((nI k24) &&& 31)))), (0, .ref h), (1, .int x), (2, .int (fX1_placeOf pl x))]) hx hb dX3_places_55 hl (k := 4) rfl (nI_1 (k24)) (by decide) rfl (fun ls hl => ?_)
        refine lv_goto (tgt := 24) hx hb dX3_places_58 (by decide) ?_
        have hR5 : sX3_places_24 ask shw kd N Rn x k24 v3_24 wpl_24 = ((v3_24 ||| (1 <<< ((nI k24) &&& 31))), (fX1_setPlace wpl_24 x (nI k24))) := (by unfold sX3_places_24; rw [if_neg c45])
        exact ih24 (k24 + 1) hlt24 (by omega) _ _ (lp_next hacc24 hR5)  _ _ hP hD hS ls (lv_sub hl [2, 3, 4, 1, 0] rfl)
    exact loop24 (10 + 1) 0 (Nat.zero_le _) (by omega) _ _ rfl  _ _ hP hD hS ls (lv_sub hl [3, 4, 2, 1, 0] rfl)
  refine lv_iconst (v := (-1)) hx hb dX3_places_8 (by decide) ?_
  have hR6 : (fX3_places ask shw an kd pl N Rn x) = ((-1), pl) := (by unfold fX3_places; rw [if_pos c5])
  rw [hQ]
  exact W.iret (v := (-1)) hx hb hr (fun t ht hW => ⟨⟨_, (), rfl, (by show _ = _; rw [hR6]), (by show va_P D vwCl _ t.heap; rw [hR6, ht]; exact hP)⟩, hS.F ht⟩) hS.2.2 dX3_places_9

def aX3_odds_39 (old an : Int32) (kd pl al wo fi ni : Nat → Int32) (pa : Int32) (N M : Nat) (wh v4_39 : Int32) : (Int64 × (Nat → Int32) × (Nat → Int32) × (Nat → Int32) × (Nat → Int32) × Int32 × Int32) := ((fX3_shareNumber N v4_39 (fX1_answers an) wh), (fX3_planned old an kd pl al wo fi ni pa N M).1, (fX3_planned old an kd pl al wo fi ni pa N M).2.1, (fX3_planned old an kd pl al wo fi ni pa N M).2.2.1, (fX3_planned old an kd pl al wo fi ni pa N M).2.2.2.1, (fX3_planned old an kd pl al wo fi ni pa N M).2.2.2.2.1, (fX3_planned old an kd pl al wo fi ni pa N M).2.2.2.2.2)
def sX3_odds_39 (old an : Int32) (kd pl al wo fi ni : Nat → Int32) (pa : Int32) (N M : Nat) (nn : Int32) (k39 : Nat) (v4_39 : Int32) : (Int32) := (if (fX3_isBoundWithin an kd pl ((fX3_planned old an kd pl al wo fi ni pa N M).2.2.1) N nn.toNatClampNeg (nI k39)) = 0 then v4_39 else (v4_39 + 1))
def fX3_odds (old an : Int32) (kd pl al wo fi ni : Nat → Int32) (pa : Int32) (N M : Nat) (nn wh : Int32) : Int64 × (Nat → Int32) × (Nat → Int32) × (Nat → Int32) × (Nat → Int32) × Int32 × Int32 := (if (fX3_noSecret an) = 0 then (if (fX3_within nn 9) = 0 then ((-9223372036854775808), al, wo, fi, ni, pa, old) else (if (fX3_within wh 1) = 0 then ((-9223372036854775808), al, wo, fi, ni, pa, old) else (aX3_odds_39 old an kd pl al wo fi ni pa N M wh (lp (fun k a => sX3_odds_39 old an kd pl al wo fi ni pa N M nn k a) 0 N)))) else ((-9223372036854775808), al, wo, fi, ni, pa, old))
theorem q_X3_odds : yX3_odds.cls = RX3 ∧ yX3_odds.cls ≠ "java/lang/invoke/MethodHandle" ∧ yX3_odds.cls ≠ "java/lang/invoke/VarHandle" ∧ (parseMethodDescriptor yX3_odds.desc).map (fun d => d.parameters.length) = some 2 := by decide +kernel
set_option maxHeartbeats 4000000 in
set_option maxRecDepth 100000 in
theorem c_X3_odds (l : Launch) (D : va_G) (cI cS : ClassId) (h sa p0 aa ab q0 q1 q2 q3 b0 b1 b2 b3 p1 p2 p3 p4 : Nat) (sf : Nat → Option Nat) (old rd tr lf : Int32) (ask shw : Nat → Int32) (an pn gr : Int32) (kd pl wt : Nat → Int32) (ban bpn bgr : Int32) (bkd bpl bwt al wo fi ni : Nat → Int32) (pa : Int32) (N M : Nat) (nn wh : Int32) (ha : an = nI N) (hN : N ≤ 6) (hM : fX1_all an = nI M) (hMb : M < 64) : MMl l yX3_odds wsX3_odds { frames := 5, cells := 0, slots := 0, locals := 112 } D cI cS (wL17 cI cS h sa p0 aa ab q0 b0 q0 q1 q2 q3 b0 b1 b2 b3 p1 p2 p3 p4 sf old rd tr lf ask shw an pn gr kd pl wt ban bpn bgr bkd bpl bwt al wo fi ni pa) [.ref h, .int nn, .int wh] ((fX3_odds old an kd pl al wo fi ni pa N M nn wh).1) (wL17 cI cS h sa p0 aa ab q0 b0 q0 q1 q2 q3 b0 b1 b2 b3 p1 p2 p3 p4 sf ((fX3_odds old an kd pl al wo fi ni pa N M nn wh).2.2.2.2.2.2) rd tr lf ask shw an pn gr kd pl wt ban bpn bgr bkd bpl bwt ((fX3_odds old an kd pl al wo fi ni pa N M nn wh).2.1) ((fX3_odds old an kd pl al wo fi ni pa N M nn wh).2.2.1) ((fX3_odds old an kd pl al wo fi ni pa N M nn wh).2.2.2.1) ((fX3_odds old an kd pl al wo fi ni pa N M nn wh).2.2.2.2.1) ((fX3_odds old an kd pl al wo fi ni pa N M nn wh).2.2.2.2.2.1)) := by
  refine kEnterM (cc := cX3_odds) (maxL := 6) (ret := (some .long)) (by decide) rfl (Nat.le_of_ble_eq_true rfl) ?_
  intro p e s m below meth c ls Qf hQ hx hb hml hr hlocks hown hts hK hP hD hS hl
  have hown : s.vm.findClass RX3 = some m.cls := hown
  have hl : lv_has ls 6 [(0, .ref h), (1, .int nn), (2, .int wh)] := hl
  generalize kA (wL17 cI cS h sa p0 aa ab q0 b0 q0 q1 q2 q3 b0 b1 b2 b3 p1 p2 p3 p4 sf old rd tr lf ask shw an pn gr kd pl wt ban bpn bgr bkd bpl bwt al wo fi ni pa) = A at hQ hD hS
  refine lv_aload_n hx hb dX3_odds_0 rfl (lv_at hl 0 rfl) ?_
  refine kPi (va_runV (As := []) (rest := []) ⟨hx, hb, hml, hown, hts⟩ (c_X3_noSecret l D cI cS h sa p0 aa ab q0 b0 q1 q2 q3 old rd tr lf an pn gr kd pl wt) (cwV 0 hts gX3_odds_X3_noSecret rfl rfl rfl q_X3_noSecret ⟨Nat.le_of_ble_eq_true rfl, Nat.le_of_ble_eq_true rfl⟩) (kPV hK hP [0, 4, 5, 6, 7] rfl (va_recv hK.1 hP (ci := 3) (q0 := 0) rfl rfl) []) rfl rfl hl.1 rfl (lv_room (Nat.le_of_ble_eq_true rfl)) dX3_odds_1 ⟨Nat.zero_le _, Nat.zero_le _⟩) ?_
  refine lv_if_ne (tgt := 24) hx hb dX3_odds_4 (by decide) (fun c4 => ?_) (fun c4 => ?_)
  · skip
    refine lv_ldc2 hx hb hown (hts (.constantLong RX3 135 (-9223372036854775808)) (List.mem_of_getElem? (i := 1) rfl)) dX3_odds_24 ?_
    have hR1 : (fX3_odds old an kd pl al wo fi ni pa N M nn wh) = ((-9223372036854775808), al, wo, fi, ni, pa, old) := (by unfold fX3_odds; rw [if_neg c4])
    rw [hQ]
    exact W.lret (v := (-9223372036854775808)) hx hb hr (fun t ht hW => ⟨⟨_, (), rfl, (by show _ = _; rw [hR1]), (by show va_P D vwCl _ t.heap; rw [hR1, ht]; exact hP)⟩, hS.F ht⟩) hS.2.2 dX3_odds_27
  refine lv_iload_n hx hb dX3_odds_7 rfl (lv_at hl 1 rfl) ?_
  refine lv_bipush (v := 9) hx hb dX3_odds_8 (by decide) ?_
  refine kPi (va_runS (As := [.int nn, .int 9]) (rest := []) ⟨hx, hb, hml, hown, hts⟩ (c_X3_within l D cI cS nn 9) (va_cwS 2 hts gX3_odds_X3_within rfl rfl rfl q_X3_within.2 ⟨Nat.le_of_ble_eq_true rfl, Nat.le_of_ble_eq_true rfl⟩) (kPS hK hP [] rfl [.int nn, .int 9]) rfl rfl hl.1 rfl (lv_room (Nat.le_of_ble_eq_true rfl)) dX3_odds_10 ⟨Nat.zero_le _, Nat.zero_le _⟩) ?_
  refine lv_if_eq (tgt := 24) hx hb dX3_odds_13 (by decide) (fun c13 => ?_) (fun c13 => ?_)
  · skip
    refine lv_ldc2 hx hb hown (hts (.constantLong RX3 135 (-9223372036854775808)) (List.mem_of_getElem? (i := 1) rfl)) dX3_odds_24 ?_
    have hR2 : (fX3_odds old an kd pl al wo fi ni pa N M nn wh) = ((-9223372036854775808), al, wo, fi, ni, pa, old) := (by unfold fX3_odds; rw [if_pos c4, if_pos c13])
    rw [hQ]
    exact W.lret (v := (-9223372036854775808)) hx hb hr (fun t ht hW => ⟨⟨_, (), rfl, (by show _ = _; rw [hR2]), (by show va_P D vwCl _ t.heap; rw [hR2, ht]; exact hP)⟩, hS.F ht⟩) hS.2.2 dX3_odds_27
  refine lv_iload_n hx hb dX3_odds_16 rfl (lv_at hl 2 rfl) ?_
  refine lv_iconst (v := 1) hx hb dX3_odds_17 (by decide) ?_
  refine kPi (va_runS (As := [.int wh, .int 1]) (rest := []) ⟨hx, hb, hml, hown, hts⟩ (c_X3_within l D cI cS wh 1) (va_cwS 2 hts gX3_odds_X3_within rfl rfl rfl q_X3_within.2 ⟨Nat.le_of_ble_eq_true rfl, Nat.le_of_ble_eq_true rfl⟩) (kPS hK hP [] rfl [.int wh, .int 1]) rfl rfl hl.1 rfl (lv_room (Nat.le_of_ble_eq_true rfl)) dX3_odds_18 ⟨Nat.zero_le _, Nat.zero_le _⟩) ?_
  refine lv_if_ne (tgt := 28) hx hb dX3_odds_21 (by decide) (fun c21 => ?_) (fun c21 => ?_)
  · skip
    have hw := kWithin 9 (by decide) c13
    refine lv_aload_n hx hb dX3_odds_28 rfl (lv_at hl 0 rfl) ?_
    refine kMq (wl' := (wL17 cI cS h sa p0 aa ab q0 b0 q0 q1 q2 q3 b0 b1 b2 b3 p1 p2 p3 p4 sf ((fX3_planned old an kd pl al wo fi ni pa N M).2.2.2.2.2) rd tr lf ask shw an pn gr kd pl wt ban bpn bgr bkd bpl bwt ((fX3_planned old an kd pl al wo fi ni pa N M).1) ((fX3_planned old an kd pl al wo fi ni pa N M).2.1) ((fX3_planned old an kd pl al wo fi ni pa N M).2.2.1) ((fX3_planned old an kd pl al wo fi ni pa N M).2.2.2.1) ((fX3_planned old an kd pl al wo fi ni pa N M).2.2.2.2.1))) (wc := (wL10 cI h sa p0 aa ab q0 b0 q1 q2 q3 p1 p2 p3 p4 old rd tr lf an pn gr kd pl wt al wo fi ni pa)) (w1 := (wL10 cI h sa p0 aa ab q0 b0 q1 q2 q3 p1 p2 p3 p4 ((fX3_planned old an kd pl al wo fi ni pa N M).2.2.2.2.2) rd tr lf an pn gr kd pl wt ((fX3_planned old an kd pl al wo fi ni pa N M).1) ((fX3_planned old an kd pl al wo fi ni pa N M).2.1) ((fX3_planned old an kd pl al wo fi ni pa N M).2.2.1) ((fX3_planned old an kd pl al wo fi ni pa N M).2.2.2.1) ((fX3_planned old an kd pl al wo fi ni pa N M).2.2.2.2.1))) hP hD hS [0, 4, 5, 6, 7, 12, 13, 14, 15, 16] rfl rfl rfl (va_runV (As := []) (rest := []) ⟨hx, hb, hml, hown, hts⟩ (c_X3_planned l D cI cS h sa p0 aa ab q0 b0 q1 q2 q3 p1 p2 p3 p4 old rd tr lf an pn gr kd pl wt al wo fi ni pa N M ha hN hM hMb) (cwV 0 hts gX3_odds_X3_planned rfl rfl rfl q_X3_planned ⟨Nat.le_of_ble_eq_true rfl, Nat.le_of_ble_eq_true rfl⟩) (kMV hK hP hD [0, 4, 5, 6, 7, 12, 13, 14, 15, 16] rfl rfl (va_recv hK.1 hP (ci := 3) (q0 := 0) rfl rfl) []) rfl rfl hl.1 rfl (lv_room (Nat.le_of_ble_eq_true rfl)) dX3_odds_29 ⟨Nat.zero_le _, Nat.zero_le _⟩) (fun H locs hP hD hS => ?_)
    refine lv_astore_n (lv' := [(3, .ref p0), (0, .ref h), (1, .int nn), (2, .int wh)]) hx hb dX3_odds_32 rfl hl (by decide) rfl (fun ls hl => ?_)
    refine lv_iconst (v := 0) hx hb dX3_odds_33 (by decide) ?_
    refine lv_istore (lv' := [(4, .int 0), (3, .ref p0), (0, .ref h), (1, .int nn), (2, .int wh)]) hx hb dX3_odds_34 hl (by decide) rfl (fun ls hl => ?_)
    refine lv_iconst (v := 0) hx hb dX3_odds_36 (by decide) ?_
    refine lv_istore (lv' := [(5, .int 0), (4, .int 0), (3, .ref p0), (0, .ref h), (1, .int nn), (2, .int wh)]) hx hb dX3_odds_37 hl (by decide) rfl (fun ls hl => ?_)
    have hR3 : (fX3_odds old an kd pl al wo fi ni pa N M nn wh) = (aX3_odds_39 old an kd pl al wo fi ni pa N M wh (lp (fun k a => sX3_odds_39 old an kd pl al wo fi ni pa N M nn k a) 0 N)) := (by unfold fX3_odds; rw [if_pos c4, if_neg c13, if_neg c21])
    have loop39 : ∀ (n k39 : Nat), k39 ≤ N → N + 1 ≤ k39 + n → ∀ (v4_39 : Int32), lp (fun k a => sX3_odds_39 old an kd pl al wo fi ni pa N M nn k a) 0 k39 = v4_39 →  ∀ (H : Heap) (locs : List Loc), va_P D vwCl (wL17 cI cS h sa p0 aa ab q0 b0 q0 q1 q2 q3 b0 b1 b2 b3 p1 p2 p3 p4 sf ((fX3_planned old an kd pl al wo fi ni pa N M).2.2.2.2.2) rd tr lf ask shw an pn gr kd pl wt ban bpn bgr bkd bpl bwt ((fX3_planned old an kd pl al wo fi ni pa N M).1) ((fX3_planned old an kd pl al wo fi ni pa N M).2.1) ((fX3_planned old an kd pl al wo fi ni pa N M).2.2.1) ((fX3_planned old an kd pl al wo fi ni pa N M).2.2.2.1) ((fX3_planned old an kd pl al wo fi ni pa N M).2.2.2.2.1)) H → va_D A (wL17 cI cS h sa p0 aa ab q0 b0 q0 q1 q2 q3 b0 b1 b2 b3 p1 p2 p3 p4 sf ((fX3_planned old an kd pl al wo fi ni pa N M).2.2.2.2.2) rd tr lf ask shw an pn gr kd pl wt ban bpn bgr bkd bpl bwt ((fX3_planned old an kd pl al wo fi ni pa N M).1) ((fX3_planned old an kd pl al wo fi ni pa N M).2.1) ((fX3_planned old an kd pl al wo fi ni pa N M).2.2.1) ((fX3_planned old an kd pl al wo fi ni pa N M).2.2.2.1) ((fX3_planned old an kd pl al wo fi ni pa N M).2.2.2.2.1)) → va_S A s.heap H locs → ∀ (ls : Array Slot), lv_has ls 6 [(0, .ref h), (1, .int nn), (2, .int wh), (3, .ref p0), (4, .int v4_39), (5, .int (nI k39))] → W p l e { frames := 5, cells := 0, slots := 0, locals := 112 } s m ([.ref h, .int nn, .int wh] : List Value).toArray below meth c H locs 0 0 Qf (F0 m 39 ls []) := by
      intro n
      induction n with
      | zero => intro k39 h1 h2; exact absurd h2 (by omega)
      | succ n ih =>
        intro k39 hk39 hn39 v4_39 hacc39  H locs hP hD hS ls hl
        have ih39 := ih
        refine lv_iload hx hb dX3_odds_39 (lv_at hl 5 rfl) ?_
        refine lv_aload_n hx hb dX3_odds_41 rfl (lv_at hl 0 rfl) ?_
        refine va_get (D := D) (ci := 3) (v := .ref q0) (C := RX3) (T := TX3) (N := 10) hx hb hts (fun _ h => List.mem_cons_of_mem _ (List.mem_append_left _ (List.mem_append_left _ (List.mem_append_right _ h)))) hown hK.1 hP 0 rfl rfl 4 (by decide) (hts (.fieldLink RX3 34 "LieNights" "secret" "LLieNights$Secret;") (List.mem_of_getElem? (i := 2) rfl)) (fun _ h9 => h9) rfl dX3_odds_42 ?_
        refine kPi (va_runV (As := []) (rest := [.int (nI k39)]) ⟨hx, hb, hml, hown, hts⟩ (c_X1_answers l D cI cS q0 q1 q2 q3 an pn gr kd pl wt) (cwV 0 hts gX3_odds_X1_answers rfl rfl rfl q_X1_answers ⟨Nat.le_of_ble_eq_true rfl, Nat.le_of_ble_eq_true rfl⟩) (kPV hK hP [4, 5, 6, 7] rfl (va_recv hK.1 hP (ci := 1) (q0 := 4) rfl rfl) []) rfl rfl hl.1 rfl (lv_room (Nat.le_of_ble_eq_true rfl)) dX3_odds_45 ⟨Nat.zero_le _, Nat.zero_le _⟩) ?_
        refine lv_icmp_ge (tgt := 71) hx hb dX3_odds_48 (by decide) (fun c48 => ?_) (fun c48 => ?_)
        · skip
          have hkN : k39 = N := (kEnd hk39 rfl ha (by omega) c48)
          rw [hkN] at hacc39
          have hR4 : (fX3_odds old an kd pl al wo fi ni pa N M nn wh) = aX3_odds_39 old an kd pl al wo fi ni pa N M wh v4_39 := hR3.trans (lp_end (x := v4_39) (g := (fun a => aX3_odds_39 old an kd pl al wo fi ni pa N M wh a)) hacc39)
          refine lv_iload hx hb dX3_odds_71 (lv_at hl 4 rfl) ?_
          refine lv_aload_n hx hb dX3_odds_73 rfl (lv_at hl 0 rfl) ?_
          refine va_get (D := D) (ci := 3) (v := .ref q0) (C := RX3) (T := TX3) (N := 10) hx hb hts (fun _ h => List.mem_cons_of_mem _ (List.mem_append_left _ (List.mem_append_left _ (List.mem_append_right _ h)))) hown hK.1 hP 0 rfl rfl 4 (by decide) (hts (.fieldLink RX3 34 "LieNights" "secret" "LLieNights$Secret;") (List.mem_of_getElem? (i := 2) rfl)) (fun _ h9 => h9) rfl dX3_odds_74 ?_
          refine kPi (va_runV (As := []) (rest := [.int v4_39]) ⟨hx, hb, hml, hown, hts⟩ (c_X1_answers l D cI cS q0 q1 q2 q3 an pn gr kd pl wt) (cwV 0 hts gX3_odds_X1_answers rfl rfl rfl q_X1_answers ⟨Nat.le_of_ble_eq_true rfl, Nat.le_of_ble_eq_true rfl⟩) (kPV hK hP [4, 5, 6, 7] rfl (va_recv hK.1 hP (ci := 1) (q0 := 4) rfl rfl) []) rfl rfl hl.1 rfl (lv_room (Nat.le_of_ble_eq_true rfl)) dX3_odds_77 ⟨Nat.zero_le _, Nat.zero_le _⟩) ?_
          refine lv_iload_n hx hb dX3_odds_80 rfl (lv_at hl 2 rfl) ?_
          refine kPl (va_runS (As := [.int v4_39, .int (fX1_answers an), .int wh]) (rest := []) ⟨hx, hb, hml, hown, hts⟩ (c_X3_shareNumber l D cI cS N v4_39 (fX1_answers an) wh ha (by omega)) (va_cwS 3 hts gX3_odds_X3_shareNumber rfl rfl rfl q_X3_shareNumber.2 ⟨Nat.le_of_ble_eq_true rfl, Nat.le_of_ble_eq_true rfl⟩) (kPS hK hP [] rfl [.int v4_39, .int (fX1_answers an), .int wh]) rfl rfl hl.1 rfl (lv_room (Nat.le_of_ble_eq_true rfl)) dX3_odds_81 ⟨Nat.zero_le _, Nat.zero_le _⟩) ?_
          have hR5 : (fX3_odds old an kd pl al wo fi ni pa N M nn wh) = ((fX3_shareNumber N v4_39 (fX1_answers an) wh), (fX3_planned old an kd pl al wo fi ni pa N M).1, (fX3_planned old an kd pl al wo fi ni pa N M).2.1, (fX3_planned old an kd pl al wo fi ni pa N M).2.2.1, (fX3_planned old an kd pl al wo fi ni pa N M).2.2.2.1, (fX3_planned old an kd pl al wo fi ni pa N M).2.2.2.2.1, (fX3_planned old an kd pl al wo fi ni pa N M).2.2.2.2.2) := hR4.trans rfl
          rw [hQ]
          exact W.lret (v := (fX3_shareNumber N v4_39 (fX1_answers an) wh)) hx hb hr (fun t ht hW => ⟨⟨_, (), rfl, (by show _ = _; rw [hR5]), (by show va_P D vwCl _ t.heap; rw [hR5, ht]; exact hP)⟩, hS.F ht⟩) hS.2.2 dX3_odds_84
        have hlt39 : k39 < N := (kLt hk39 rfl ha c48)
        refine lv_aload_n hx hb dX3_odds_51 rfl (lv_at hl 0 rfl) ?_
        refine lv_aload_n hx hb dX3_odds_52 rfl (lv_at hl 3 rfl) ?_
        refine lv_iload hx hb dX3_odds_53 (lv_at hl 5 rfl) ?_
        refine lv_iload_n hx hb dX3_odds_55 rfl (lv_at hl 1 rfl) ?_
        refine kPi (va_runV (As := [.ref p0, .int (nI k39), .int nn]) (rest := []) ⟨hx, hb, hml, hown, hts⟩ (c_X3_isBoundWithin l D cI cS h sa p0 aa ab q0 b0 q1 q2 q3 p1 p2 p3 p4 ((fX3_planned old an kd pl al wo fi ni pa N M).2.2.2.2.2) rd tr lf an pn gr kd pl wt ((fX3_planned old an kd pl al wo fi ni pa N M).1) ((fX3_planned old an kd pl al wo fi ni pa N M).2.1) ((fX3_planned old an kd pl al wo fi ni pa N M).2.2.1) ((fX3_planned old an kd pl al wo fi ni pa N M).2.2.2.1) ((fX3_planned old an kd pl al wo fi ni pa N M).2.2.2.2.1) N nn.toNatClampNeg (nI k39) nn ha hN hw.1 (Nat.le_trans hw.2 (by decide))) (cwV 3 hts gX3_odds_X3_isBoundWithin rfl rfl rfl q_X3_isBoundWithin ⟨Nat.le_of_ble_eq_true rfl, Nat.le_of_ble_eq_true rfl⟩) (kPV hK hP [0, 4, 5, 6, 7, 12, 13, 14, 15, 16] rfl (va_recv hK.1 hP (ci := 3) (q0 := 0) rfl rfl) [.ref p0, .int (nI k39), .int nn]) rfl rfl hl.1 rfl (lv_room (Nat.le_of_ble_eq_true rfl)) dX3_odds_56 ⟨Nat.zero_le _, Nat.zero_le _⟩) ?_
        refine lv_if_eq (tgt := 65) hx hb dX3_odds_59 (by decide) (fun c59 => ?_) (fun c59 => ?_)
        · skip
          refine lv_iinc (v := (nI (k39 + 1))) (lv' := [(5, .int (nI (k39 + 1))), (0, .ref h), (1, .int nn), (2, .int wh), (3, .ref p0), (4, .int v4_39)]) hx hb dX3_odds_65 hl (k := 5) rfl (nI_1 (k39)) (by decide) rfl (fun ls hl => ?_)
          refine lv_goto (tgt := 39) hx hb dX3_odds_68 (by decide) ?_
          have hR6 : sX3_odds_39 old an kd pl al wo fi ni pa N M nn k39 v4_39 = v4_39 := (by unfold sX3_odds_39; rw [if_pos c59])
          exact ih39 (k39 + 1) hlt39 (by omega) _ (lp_next hacc39 hR6)  _ _ hP hD hS ls (lv_sub hl [1, 2, 3, 4, 5, 0] rfl)
        refine lv_iinc (v := (v4_39 + 1)) (lv' := [(4, .int (v4_39 + 1)), (0, .ref h), (1, .int nn), (2, .int wh), (3, .ref p0), (5, .int (nI k39))]) hx hb dX3_odds_62 hl (k := 4) rfl rfl (by decide) rfl (fun ls hl => ?_)
        refine lv_iinc (v := (nI (k39 + 1))) (lv' := [(5, .int (nI (k39 + 1))), (4, .int (v4_39 + 1)), (0, .ref h), (1, .int nn), (2, .int wh), (3, .ref p0)]) hx hb dX3_odds_65 hl (k := 5) rfl (nI_1 (k39)) (by decide) rfl (fun ls hl => ?_)
        refine lv_goto (tgt := 39) hx hb dX3_odds_68 (by decide) ?_
        have hR7 : sX3_odds_39 old an kd pl al wo fi ni pa N M nn k39 v4_39 = (v4_39 + 1) := (by unfold sX3_odds_39; rw [if_neg c59])
        exact ih39 (k39 + 1) hlt39 (by omega) _ (lp_next hacc39 hR7)  _ _ hP hD hS ls (lv_sub hl [2, 3, 4, 5, 1, 0] rfl)
    exact loop39 (N + 1) 0 (Nat.zero_le _) (by omega) _ rfl  _ _ hP hD hS ls (lv_sub hl [3, 4, 5, 2, 1, 0] rfl)
  refine lv_ldc2 hx hb hown (hts (.constantLong RX3 135 (-9223372036854775808)) (List.mem_of_getElem? (i := 1) rfl)) dX3_odds_24 ?_
  have hR8 : (fX3_odds old an kd pl al wo fi ni pa N M nn wh) = ((-9223372036854775808), al, wo, fi, ni, pa, old) := (by unfold fX3_odds; rw [if_pos c4, if_neg c13, if_pos c21])
  rw [hQ]
  exact W.lret (v := (-9223372036854775808)) hx hb hr (fun t ht hW => ⟨⟨_, (), rfl, (by show _ = _; rw [hR8]), (by show va_P D vwCl _ t.heap; rw [hR8, ht]; exact hP)⟩, hS.F ht⟩) hS.2.2 dX3_odds_27

def fX3_tell (tr an : Int32) (kd pl : Nat → Int32) (x : Int32) : Int32 × Int32 := (if (fX3_isAnswer an x) = 0 then ((-1), tr) else (if (fX1_kindOf kd x) = 1 then ((fX3_tellSly tr pl x).1, (fX3_tellSly tr pl x).2) else (if (fX1_kindOf kd x) = 2 then ((fX3_tellVain tr pl x).1, (fX3_tellVain tr pl x).2) else ((fX3_tellPlain tr pl x).1, (fX3_tellPlain tr pl x).2))))
theorem q_X3_tell : yX3_tell.cls = RX3 ∧ yX3_tell.cls ≠ "java/lang/invoke/MethodHandle" ∧ yX3_tell.cls ≠ "java/lang/invoke/VarHandle" ∧ (parseMethodDescriptor yX3_tell.desc).map (fun d => d.parameters.length) = some 1 := by decide +kernel
set_option maxHeartbeats 4000000 in
set_option maxRecDepth 100000 in
theorem c_X3_tell (l : Launch) (D : va_G) (cI cS : ClassId) (h sa p0 aa ab q0 q1 q2 q3 b0 b1 b2 b3 p1 p2 p3 p4 : Nat) (sf : Nat → Option Nat) (old rd tr lf : Int32) (ask shw : Nat → Int32) (an pn gr : Int32) (kd pl wt : Nat → Int32) (ban bpn bgr : Int32) (bkd bpl bwt al wo fi ni : Nat → Int32) (pa x : Int32)  : MMi l yX3_tell wsX3_tell { frames := 5, cells := 0, slots := 0, locals := 106 } D cI cS (wL17 cI cS h sa p0 aa ab q0 b0 q0 q1 q2 q3 b0 b1 b2 b3 p1 p2 p3 p4 sf old rd tr lf ask shw an pn gr kd pl wt ban bpn bgr bkd bpl bwt al wo fi ni pa) [.ref h, .int x] ((fX3_tell tr an kd pl x).1) (wL17 cI cS h sa p0 aa ab q0 b0 q0 q1 q2 q3 b0 b1 b2 b3 p1 p2 p3 p4 sf old rd ((fX3_tell tr an kd pl x).2) lf ask shw an pn gr kd pl wt ban bpn bgr bkd bpl bwt al wo fi ni pa) := by
  refine kEnterM (cc := cX3_tell) (maxL := 2) (ret := (some .int)) (by decide) rfl (Nat.le_of_ble_eq_true rfl) ?_
  intro p e s m below meth c ls Qf hQ hx hb hml hr hlocks hown hts hK hP hD hS hl
  have hown : s.vm.findClass RX3 = some m.cls := hown
  have hl : lv_has ls 2 [(0, .ref h), (1, .int x)] := hl
  generalize kA (wL17 cI cS h sa p0 aa ab q0 b0 q0 q1 q2 q3 b0 b1 b2 b3 p1 p2 p3 p4 sf old rd tr lf ask shw an pn gr kd pl wt ban bpn bgr bkd bpl bwt al wo fi ni pa) = A at hQ hD hS
  refine lv_aload_n hx hb dX3_tell_0 rfl (lv_at hl 0 rfl) ?_
  refine lv_iload_n hx hb dX3_tell_1 rfl (lv_at hl 1 rfl) ?_
  refine kPi (va_runV (As := [.int x]) (rest := []) ⟨hx, hb, hml, hown, hts⟩ (c_X3_isAnswer l D cI cS h sa p0 aa ab q0 b0 q1 q2 q3 old rd tr lf an pn gr kd pl wt x) (cwV 1 hts gX3_tell_X3_isAnswer rfl rfl rfl q_X3_isAnswer ⟨Nat.le_of_ble_eq_true rfl, Nat.le_of_ble_eq_true rfl⟩) (kPV hK hP [0, 4, 5, 6, 7] rfl (va_recv hK.1 hP (ci := 3) (q0 := 0) rfl rfl) [.int x]) rfl rfl hl.1 rfl (lv_room (Nat.le_of_ble_eq_true rfl)) dX3_tell_2 ⟨Nat.zero_le _, Nat.zero_le _⟩) ?_
  refine lv_if_ne (tgt := 10) hx hb dX3_tell_5 (by decide) (fun c5 => ?_) (fun c5 => ?_)
  · skip
    refine lv_aload_n hx hb dX3_tell_10 rfl (lv_at hl 0 rfl) ?_
    refine va_get (D := D) (ci := 3) (v := .ref q0) (C := RX3) (T := TX3) (N := 10) hx hb hts (fun _ h => List.mem_cons_of_mem _ (List.mem_append_left _ (List.mem_append_right _ h))) hown hK.1 hP 0 rfl rfl 4 (by decide) (hts (.fieldLink RX3 34 "LieNights" "secret" "LLieNights$Secret;") (List.mem_of_getElem? (i := 1) rfl)) (fun _ h9 => h9) rfl dX3_tell_11 ?_
    refine lv_iload_n hx hb dX3_tell_14 rfl (lv_at hl 1 rfl) ?_
    refine kPi (va_runV (As := [.int x]) (rest := []) ⟨hx, hb, hml, hown, hts⟩ (c_X1_kindOf l D cI cS q0 q1 q2 q3 an pn gr kd pl wt x) (cwV 1 hts gX3_tell_X1_kindOf rfl rfl rfl q_X1_kindOf ⟨Nat.le_of_ble_eq_true rfl, Nat.le_of_ble_eq_true rfl⟩) (kPV hK hP [4, 5, 6, 7] rfl (va_recv hK.1 hP (ci := 1) (q0 := 4) rfl rfl) [.int x]) rfl rfl hl.1 rfl (lv_room (Nat.le_of_ble_eq_true rfl)) dX3_tell_15 ⟨Nat.zero_le _, Nat.zero_le _⟩) ?_
    by_cases c18_1 : (fX1_kindOf kd x) = 1
    · skip
      refine lv_lookup (tgt := 44) (off := 26) hx hb dX3_tell_18 (by decide) (by rw [c18_1]; decide) (by decide) ?_
      refine lv_aload_n hx hb dX3_tell_44 rfl (lv_at hl 0 rfl) ?_
      refine lv_iload_n hx hb dX3_tell_45 rfl (lv_at hl 1 rfl) ?_
      refine kMi (wl' := (wL17 cI cS h sa p0 aa ab q0 b0 q0 q1 q2 q3 b0 b1 b2 b3 p1 p2 p3 p4 sf old rd ((fX3_tellSly tr pl x).2) lf ask shw an pn gr kd pl wt ban bpn bgr bkd bpl bwt al wo fi ni pa)) (wc := (wL5 cI h sa p0 aa ab q0 b0 q1 q2 q3 old rd tr lf an pn gr kd pl wt)) (w1 := (wL5 cI h sa p0 aa ab q0 b0 q1 q2 q3 old rd ((fX3_tellSly tr pl x).2) lf an pn gr kd pl wt)) hP hD hS [0, 4, 5, 6, 7] rfl rfl rfl (va_runV (As := [.int x]) (rest := []) ⟨hx, hb, hml, hown, hts⟩ (c_X3_tellSly l D cI cS h sa p0 aa ab q0 b0 q1 q2 q3 old rd tr lf an pn gr kd pl wt x) (cwV 1 hts gX3_tell_X3_tellSly rfl rfl rfl q_X3_tellSly ⟨Nat.le_of_ble_eq_true rfl, Nat.le_of_ble_eq_true rfl⟩) (kMV hK hP hD [0, 4, 5, 6, 7] rfl rfl (va_recv hK.1 hP (ci := 3) (q0 := 0) rfl rfl) [.int x]) rfl rfl hl.1 rfl (lv_room (Nat.le_of_ble_eq_true rfl)) dX3_tell_46 ⟨Nat.zero_le _, Nat.zero_le _⟩) (fun H locs hP hD hS => ?_)
      have hR1 : (fX3_tell tr an kd pl x) = ((fX3_tellSly tr pl x).1, (fX3_tellSly tr pl x).2) := (by unfold fX3_tell; rw [if_neg c5, if_pos c18_1])
      rw [hQ]
      exact W.iret (v := (fX3_tellSly tr pl x).1) hx hb hr (fun t ht hW => ⟨⟨_, (), rfl, (by show _ = _; rw [hR1]), (by show va_P D vwCl _ t.heap; rw [hR1, ht]; exact hP)⟩, hS.F ht⟩) hS.2.2 dX3_tell_49
    by_cases c18_2 : (fX1_kindOf kd x) = 2
    · skip
      refine lv_lookup (tgt := 50) (off := 32) hx hb dX3_tell_18 (by decide) (by rw [c18_2]; decide) (by decide) ?_
      refine lv_aload_n hx hb dX3_tell_50 rfl (lv_at hl 0 rfl) ?_
      refine lv_iload_n hx hb dX3_tell_51 rfl (lv_at hl 1 rfl) ?_
      refine kMi (wl' := (wL17 cI cS h sa p0 aa ab q0 b0 q0 q1 q2 q3 b0 b1 b2 b3 p1 p2 p3 p4 sf old rd ((fX3_tellVain tr pl x).2) lf ask shw an pn gr kd pl wt ban bpn bgr bkd bpl bwt al wo fi ni pa)) (wc := (wL5 cI h sa p0 aa ab q0 b0 q1 q2 q3 old rd tr lf an pn gr kd pl wt)) (w1 := (wL5 cI h sa p0 aa ab q0 b0 q1 q2 q3 old rd ((fX3_tellVain tr pl x).2) lf an pn gr kd pl wt)) hP hD hS [0, 4, 5, 6, 7] rfl rfl rfl (va_runV (As := [.int x]) (rest := []) ⟨hx, hb, hml, hown, hts⟩ (c_X3_tellVain l D cI cS h sa p0 aa ab q0 b0 q1 q2 q3 old rd tr lf an pn gr kd pl wt x) (cwV 1 hts gX3_tell_X3_tellVain rfl rfl rfl q_X3_tellVain ⟨Nat.le_of_ble_eq_true rfl, Nat.le_of_ble_eq_true rfl⟩) (kMV hK hP hD [0, 4, 5, 6, 7] rfl rfl (va_recv hK.1 hP (ci := 3) (q0 := 0) rfl rfl) [.int x]) rfl rfl hl.1 rfl (lv_room (Nat.le_of_ble_eq_true rfl)) dX3_tell_52 ⟨Nat.zero_le _, Nat.zero_le _⟩) (fun H locs hP hD hS => ?_)
      have hR2 : (fX3_tell tr an kd pl x) = ((fX3_tellVain tr pl x).1, (fX3_tellVain tr pl x).2) := (by unfold fX3_tell; rw [if_neg c5, if_neg c18_1, if_pos c18_2])
      rw [hQ]
      exact W.iret (v := (fX3_tellVain tr pl x).1) hx hb hr (fun t ht hW => ⟨⟨_, (), rfl, (by show _ = _; rw [hR2]), (by show va_P D vwCl _ t.heap; rw [hR2, ht]; exact hP)⟩, hS.F ht⟩) hS.2.2 dX3_tell_55
    refine lv_lookup (tgt := 56) (off := 38) hx hb dX3_tell_18 (by decide) (by rw [lv_osw (k := 1) (a := 1) c18_1 rfl, lv_osw (k := 2) (a := 2) c18_2 rfl]; rfl) (by decide) ?_
    refine lv_aload_n hx hb dX3_tell_56 rfl (lv_at hl 0 rfl) ?_
    refine lv_iload_n hx hb dX3_tell_57 rfl (lv_at hl 1 rfl) ?_
    refine kMi (wl' := (wL17 cI cS h sa p0 aa ab q0 b0 q0 q1 q2 q3 b0 b1 b2 b3 p1 p2 p3 p4 sf old rd ((fX3_tellPlain tr pl x).2) lf ask shw an pn gr kd pl wt ban bpn bgr bkd bpl bwt al wo fi ni pa)) (wc := (wL5 cI h sa p0 aa ab q0 b0 q1 q2 q3 old rd tr lf an pn gr kd pl wt)) (w1 := (wL5 cI h sa p0 aa ab q0 b0 q1 q2 q3 old rd ((fX3_tellPlain tr pl x).2) lf an pn gr kd pl wt)) hP hD hS [0, 4, 5, 6, 7] rfl rfl rfl (va_runV (As := [.int x]) (rest := []) ⟨hx, hb, hml, hown, hts⟩ (c_X3_tellPlain l D cI cS h sa p0 aa ab q0 b0 q1 q2 q3 old rd tr lf an pn gr kd pl wt x) (cwV 1 hts gX3_tell_X3_tellPlain rfl rfl rfl q_X3_tellPlain ⟨Nat.le_of_ble_eq_true rfl, Nat.le_of_ble_eq_true rfl⟩) (kMV hK hP hD [0, 4, 5, 6, 7] rfl rfl (va_recv hK.1 hP (ci := 3) (q0 := 0) rfl rfl) [.int x]) rfl rfl hl.1 rfl (lv_room (Nat.le_of_ble_eq_true rfl)) dX3_tell_58 ⟨Nat.zero_le _, Nat.zero_le _⟩) (fun H locs hP hD hS => ?_)
    have hR3 : (fX3_tell tr an kd pl x) = ((fX3_tellPlain tr pl x).1, (fX3_tellPlain tr pl x).2) := (by unfold fX3_tell; rw [if_neg c5, if_neg c18_1, if_neg c18_2])
    rw [hQ]
    exact W.iret (v := (fX3_tellPlain tr pl x).1) hx hb hr (fun t ht hW => ⟨⟨_, (), rfl, (by show _ = _; rw [hR3]), (by show va_P D vwCl _ t.heap; rw [hR3, ht]; exact hP)⟩, hS.F ht⟩) hS.2.2 dX3_tell_61
  refine lv_iconst (v := (-1)) hx hb dX3_tell_8 (by decide) ?_
  have hR4 : (fX3_tell tr an kd pl x) = ((-1), tr) := (by unfold fX3_tell; rw [if_pos c5])
  rw [hQ]
  exact W.iret (v := (-1)) hx hb hr (fun t ht hW => ⟨⟨_, (), rfl, (by show _ = _; rw [hR4]), (by show va_P D vwCl _ t.heap; rw [hR4, ht]; exact hP)⟩, hS.F ht⟩) hS.2.2 dX3_tell_9

def fX3_whisper (tr an : Int32) (kd : Nat → Int32) (x : Int32) : Int32 × Int32 := (if (fX3_isAnswer an x) = 0 then ((-1), tr) else (if (fX1_kindOf kd x) = 2 then ((fX3_whisperVain tr).1, (fX3_whisperVain tr).2) else ((fX3_whisperLent tr x).1, (fX3_whisperLent tr x).2)))
theorem q_X3_whisper : yX3_whisper.cls = RX3 ∧ yX3_whisper.cls ≠ "java/lang/invoke/MethodHandle" ∧ yX3_whisper.cls ≠ "java/lang/invoke/VarHandle" ∧ (parseMethodDescriptor yX3_whisper.desc).map (fun d => d.parameters.length) = some 1 := by decide +kernel
set_option maxHeartbeats 4000000 in
set_option maxRecDepth 100000 in
theorem c_X3_whisper (l : Launch) (D : va_G) (cI cS : ClassId) (h sa p0 aa ab q0 q1 q2 q3 b0 b1 b2 b3 p1 p2 p3 p4 : Nat) (sf : Nat → Option Nat) (old rd tr lf : Int32) (ask shw : Nat → Int32) (an pn gr : Int32) (kd pl wt : Nat → Int32) (ban bpn bgr : Int32) (bkd bpl bwt al wo fi ni : Nat → Int32) (pa x : Int32)  : MMi l yX3_whisper wsX3_whisper { frames := 2, cells := 0, slots := 0, locals := 42 } D cI cS (wL17 cI cS h sa p0 aa ab q0 b0 q0 q1 q2 q3 b0 b1 b2 b3 p1 p2 p3 p4 sf old rd tr lf ask shw an pn gr kd pl wt ban bpn bgr bkd bpl bwt al wo fi ni pa) [.ref h, .int x] ((fX3_whisper tr an kd x).1) (wL17 cI cS h sa p0 aa ab q0 b0 q0 q1 q2 q3 b0 b1 b2 b3 p1 p2 p3 p4 sf old rd ((fX3_whisper tr an kd x).2) lf ask shw an pn gr kd pl wt ban bpn bgr bkd bpl bwt al wo fi ni pa) := by
  refine kEnterM (cc := cX3_whisper) (maxL := 2) (ret := (some .int)) (by decide) rfl (Nat.le_of_ble_eq_true rfl) ?_
  intro p e s m below meth c ls Qf hQ hx hb hml hr hlocks hown hts hK hP hD hS hl
  have hown : s.vm.findClass RX3 = some m.cls := hown
  have hl : lv_has ls 2 [(0, .ref h), (1, .int x)] := hl
  generalize kA (wL17 cI cS h sa p0 aa ab q0 b0 q0 q1 q2 q3 b0 b1 b2 b3 p1 p2 p3 p4 sf old rd tr lf ask shw an pn gr kd pl wt ban bpn bgr bkd bpl bwt al wo fi ni pa) = A at hQ hD hS
  refine lv_aload_n hx hb dX3_whisper_0 rfl (lv_at hl 0 rfl) ?_
  refine lv_iload_n hx hb dX3_whisper_1 rfl (lv_at hl 1 rfl) ?_
  refine kPi (va_runV (As := [.int x]) (rest := []) ⟨hx, hb, hml, hown, hts⟩ (c_X3_isAnswer l D cI cS h sa p0 aa ab q0 b0 q1 q2 q3 old rd tr lf an pn gr kd pl wt x) (cwV 1 hts gX3_whisper_X3_isAnswer rfl rfl rfl q_X3_isAnswer ⟨Nat.le_of_ble_eq_true rfl, Nat.le_of_ble_eq_true rfl⟩) (kPV hK hP [0, 4, 5, 6, 7] rfl (va_recv hK.1 hP (ci := 3) (q0 := 0) rfl rfl) [.int x]) rfl rfl hl.1 rfl (lv_room (Nat.le_of_ble_eq_true rfl)) dX3_whisper_2 ⟨Nat.zero_le _, Nat.zero_le _⟩) ?_
  refine lv_if_ne (tgt := 10) hx hb dX3_whisper_5 (by decide) (fun c5 => ?_) (fun c5 => ?_)
  · skip
    refine lv_aload_n hx hb dX3_whisper_10 rfl (lv_at hl 0 rfl) ?_
    refine va_get (D := D) (ci := 3) (v := .ref q0) (C := RX3) (T := TX3) (N := 10) hx hb hts (fun _ h => List.mem_cons_of_mem _ (List.mem_append_left _ (List.mem_append_right _ h))) hown hK.1 hP 0 rfl rfl 4 (by decide) (hts (.fieldLink RX3 34 "LieNights" "secret" "LLieNights$Secret;") (List.mem_of_getElem? (i := 1) rfl)) (fun _ h9 => h9) rfl dX3_whisper_11 ?_
    refine lv_iload_n hx hb dX3_whisper_14 rfl (lv_at hl 1 rfl) ?_
    refine kPi (va_runV (As := [.int x]) (rest := []) ⟨hx, hb, hml, hown, hts⟩ (c_X1_kindOf l D cI cS q0 q1 q2 q3 an pn gr kd pl wt x) (cwV 1 hts gX3_whisper_X1_kindOf rfl rfl rfl q_X1_kindOf ⟨Nat.le_of_ble_eq_true rfl, Nat.le_of_ble_eq_true rfl⟩) (kPV hK hP [4, 5, 6, 7] rfl (va_recv hK.1 hP (ci := 1) (q0 := 4) rfl rfl) [.int x]) rfl rfl hl.1 rfl (lv_room (Nat.le_of_ble_eq_true rfl)) dX3_whisper_15 ⟨Nat.zero_le _, Nat.zero_le _⟩) ?_
    refine lv_iconst (v := 2) hx hb dX3_whisper_18 (by decide) ?_
    refine lv_icmp_ne (tgt := 29) hx hb dX3_whisper_19 (by decide) (fun c19 => ?_) (fun c19 => ?_)
    · skip
      refine lv_aload_n hx hb dX3_whisper_29 rfl (lv_at hl 0 rfl) ?_
      refine lv_iload_n hx hb dX3_whisper_30 rfl (lv_at hl 1 rfl) ?_
      refine kMi (wl' := (wL17 cI cS h sa p0 aa ab q0 b0 q0 q1 q2 q3 b0 b1 b2 b3 p1 p2 p3 p4 sf old rd ((fX3_whisperLent tr x).2) lf ask shw an pn gr kd pl wt ban bpn bgr bkd bpl bwt al wo fi ni pa)) (wc := (wL1 cI h sa p0 aa ab q0 b0 old rd tr lf)) (w1 := (wL1 cI h sa p0 aa ab q0 b0 old rd ((fX3_whisperLent tr x).2) lf)) hP hD hS [0] rfl rfl rfl (va_runV (As := [.int x]) (rest := []) ⟨hx, hb, hml, hown, hts⟩ (c_X3_whisperLent l D cI cS h sa p0 aa ab q0 b0 old rd tr lf x) (cwV 1 hts gX3_whisper_X3_whisperLent rfl rfl rfl q_X3_whisperLent ⟨Nat.le_of_ble_eq_true rfl, Nat.le_of_ble_eq_true rfl⟩) (kMV hK hP hD [0] rfl rfl (va_recv hK.1 hP (ci := 3) (q0 := 0) rfl rfl) [.int x]) rfl rfl hl.1 rfl (lv_room (Nat.le_of_ble_eq_true rfl)) dX3_whisper_31 ⟨Nat.zero_le _, Nat.zero_le _⟩) (fun H locs hP hD hS => ?_)
      have hR1 : (fX3_whisper tr an kd x) = ((fX3_whisperLent tr x).1, (fX3_whisperLent tr x).2) := (by unfold fX3_whisper; rw [if_neg c5, if_neg c19])
      rw [hQ]
      exact W.iret (v := (fX3_whisperLent tr x).1) hx hb hr (fun t ht hW => ⟨⟨_, (), rfl, (by show _ = _; rw [hR1]), (by show va_P D vwCl _ t.heap; rw [hR1, ht]; exact hP)⟩, hS.F ht⟩) hS.2.2 dX3_whisper_34
    refine lv_aload_n hx hb dX3_whisper_22 rfl (lv_at hl 0 rfl) ?_
    refine kMi (wl' := (wL17 cI cS h sa p0 aa ab q0 b0 q0 q1 q2 q3 b0 b1 b2 b3 p1 p2 p3 p4 sf old rd ((fX3_whisperVain tr).2) lf ask shw an pn gr kd pl wt ban bpn bgr bkd bpl bwt al wo fi ni pa)) (wc := (wL1 cI h sa p0 aa ab q0 b0 old rd tr lf)) (w1 := (wL1 cI h sa p0 aa ab q0 b0 old rd ((fX3_whisperVain tr).2) lf)) hP hD hS [0] rfl rfl rfl (va_runV (As := []) (rest := []) ⟨hx, hb, hml, hown, hts⟩ (c_X3_whisperVain l D cI cS h sa p0 aa ab q0 b0 old rd tr lf) (cwV 0 hts gX3_whisper_X3_whisperVain rfl rfl rfl q_X3_whisperVain ⟨Nat.le_of_ble_eq_true rfl, Nat.le_of_ble_eq_true rfl⟩) (kMV hK hP hD [0] rfl rfl (va_recv hK.1 hP (ci := 3) (q0 := 0) rfl rfl) []) rfl rfl hl.1 rfl (lv_room (Nat.le_of_ble_eq_true rfl)) dX3_whisper_23 ⟨Nat.zero_le _, Nat.zero_le _⟩) (fun H locs hP hD hS => ?_)
    refine lv_goto (tgt := 34) hx hb dX3_whisper_26 (by decide) ?_
    have hR2 : (fX3_whisper tr an kd x) = ((fX3_whisperVain tr).1, (fX3_whisperVain tr).2) := (by unfold fX3_whisper; rw [if_neg c5, if_pos c19])
    rw [hQ]
    exact W.iret (v := (fX3_whisperVain tr).1) hx hb hr (fun t ht hW => ⟨⟨_, (), rfl, (by show _ = _; rw [hR2]), (by show va_P D vwCl _ t.heap; rw [hR2, ht]; exact hP)⟩, hS.F ht⟩) hS.2.2 dX3_whisper_34
  refine lv_iconst (v := (-1)) hx hb dX3_whisper_8 (by decide) ?_
  have hR3 : (fX3_whisper tr an kd x) = ((-1), tr) := (by unfold fX3_whisper; rw [if_pos c5])
  rw [hQ]
  exact W.iret (v := (-1)) hx hb hr (fun t ht hW => ⟨⟨_, (), rfl, (by show _ = _; rw [hR3]), (by show va_P D vwCl _ t.heap; rw [hR3, ht]; exact hP)⟩, hS.F ht⟩) hS.2.2 dX3_whisper_9

def fX3_as (an : Int32) (kd : Nat → Int32) (x ki : Int32) : Int32 × Int32 := (if (fX3_isAnswer an x) = 0 then ((-1), 0) else (if (fX3_within ki 2) = 0 then ((-2), 0) else (if (fX1_kindOf kd x) < ki then (((-10) - 2), 2) else (1, 0))))
theorem q_X3_as : yX3_as.cls = RX3 ∧ yX3_as.cls ≠ "java/lang/invoke/MethodHandle" ∧ yX3_as.cls ≠ "java/lang/invoke/VarHandle" ∧ (parseMethodDescriptor yX3_as.desc).map (fun d => d.parameters.length) = some 2 := by decide +kernel
set_option maxHeartbeats 4000000 in
set_option maxRecDepth 100000 in
theorem c_X3_as (l : Launch) (D : va_G) (cI cS : ClassId) (h sa p0 aa ab q0 q1 q2 q3 b0 b1 b2 b3 p1 p2 p3 p4 : Nat) (sf : Nat → Option Nat) (old rd tr lf : Int32) (ask shw : Nat → Int32) (an pn gr : Int32) (kd pl wt : Nat → Int32) (ban bpn bgr : Int32) (bkd bpl bwt al wo fi ni : Nat → Int32) (pa x ki : Int32)  : MMi l yX3_as wsX3_as { frames := 2, cells := 0, slots := 0, locals := 42 } D cI cS (wL17 cI cS h sa p0 aa ab q0 b0 q0 q1 q2 q3 b0 b1 b2 b3 p1 p2 p3 p4 sf old rd tr lf ask shw an pn gr kd pl wt ban bpn bgr bkd bpl bwt al wo fi ni pa) [.ref h, .int x, .int ki] ((fX3_as an kd x ki).1) (wL17 cI cS h sa p0 aa ab q0 b0 q0 q1 q2 q3 b0 b1 b2 b3 p1 p2 p3 p4 sf old rd tr ((fX3_as an kd x ki).2) ask shw an pn gr kd pl wt ban bpn bgr bkd bpl bwt al wo fi ni pa) := by
  refine kEnterM (cc := cX3_as) (maxL := 3) (ret := (some .int)) (by decide) rfl (Nat.le_of_ble_eq_true rfl) ?_
  intro p e s m below meth c ls Qf hQ hx hb hml hr hlocks hown hts hK hP hD hS hl
  have hown : s.vm.findClass RX3 = some m.cls := hown
  have hl : lv_has ls 3 [(0, .ref h), (1, .int x), (2, .int ki)] := hl
  generalize kA (wL17 cI cS h sa p0 aa ab q0 b0 q0 q1 q2 q3 b0 b1 b2 b3 p1 p2 p3 p4 sf old rd tr lf ask shw an pn gr kd pl wt ban bpn bgr bkd bpl bwt al wo fi ni pa) = A at hQ hD hS
  refine lv_aload_n hx hb dX3_as_0 rfl (lv_at hl 0 rfl) ?_
  refine lv_iconst (v := 0) hx hb dX3_as_1 (by decide) ?_
  refine va_put (D := D) (ci := 3) (v := .int 0) (ty := tyX3 9) (C := RX3) (T := TX3) (N := 10) hx hb hts (fun _ h => List.mem_cons_of_mem _ (List.mem_append_left _ (List.mem_append_right _ h))) tyX3 tyX3_ok nmX3 hown hK.1 hP hD hS 0 rfl rfl 9 (by decide) (hts (.fieldLink RX3 45 "LieNights" "lastFault" "I") (List.mem_of_getElem? (i := 1) rfl)) (fun _ h9 => h9) rfl (tyX3_ok 9 (by decide)) rfl rfl (Nat.le_of_ble_eq_true rfl) dX3_as_2 (fun H locs hP hD hS => ?_)
  have hP : va_P D vwCl (wL17 cI cS h sa p0 aa ab q0 b0 q0 q1 q2 q3 b0 b1 b2 b3 p1 p2 p3 p4 sf old rd tr 0 ask shw an pn gr kd pl wt ban bpn bgr bkd bpl bwt al wo fi ni pa) H := hP
  have hD : va_D A (wL17 cI cS h sa p0 aa ab q0 b0 q0 q1 q2 q3 b0 b1 b2 b3 p1 p2 p3 p4 sf old rd tr 0 ask shw an pn gr kd pl wt ban bpn bgr bkd bpl bwt al wo fi ni pa) := hD
  refine lv_aload_n hx hb dX3_as_5 rfl (lv_at hl 0 rfl) ?_
  refine lv_iload_n hx hb dX3_as_6 rfl (lv_at hl 1 rfl) ?_
  refine kPi (va_runV (As := [.int x]) (rest := []) ⟨hx, hb, hml, hown, hts⟩ (c_X3_isAnswer l D cI cS h sa p0 aa ab q0 b0 q1 q2 q3 old rd tr 0 an pn gr kd pl wt x) (cwV 1 hts gX3_as_X3_isAnswer rfl rfl rfl q_X3_isAnswer ⟨Nat.le_of_ble_eq_true rfl, Nat.le_of_ble_eq_true rfl⟩) (kPV hK hP [0, 4, 5, 6, 7] rfl (va_recv hK.1 hP (ci := 3) (q0 := 0) rfl rfl) [.int x]) rfl rfl hl.1 rfl (lv_room (Nat.le_of_ble_eq_true rfl)) dX3_as_7 ⟨Nat.zero_le _, Nat.zero_le _⟩) ?_
  refine lv_if_ne (tgt := 15) hx hb dX3_as_10 (by decide) (fun c10 => ?_) (fun c10 => ?_)
  · skip
    refine lv_iload_n hx hb dX3_as_15 rfl (lv_at hl 2 rfl) ?_
    refine lv_iconst (v := 2) hx hb dX3_as_16 (by decide) ?_
    refine kPi (va_runS (As := [.int ki, .int 2]) (rest := []) ⟨hx, hb, hml, hown, hts⟩ (c_X3_within l D cI cS ki 2) (va_cwS 2 hts gX3_as_X3_within rfl rfl rfl q_X3_within.2 ⟨Nat.le_of_ble_eq_true rfl, Nat.le_of_ble_eq_true rfl⟩) (kPS hK hP [] rfl [.int ki, .int 2]) rfl rfl hl.1 rfl (lv_room (Nat.le_of_ble_eq_true rfl)) dX3_as_17 ⟨Nat.zero_le _, Nat.zero_le _⟩) ?_
    refine lv_if_ne (tgt := 26) hx hb dX3_as_20 (by decide) (fun c20 => ?_) (fun c20 => ?_)
    · skip
      refine lv_aload_n hx hb dX3_as_26 rfl (lv_at hl 0 rfl) ?_
      refine va_get (D := D) (ci := 3) (v := .ref q0) (C := RX3) (T := TX3) (N := 10) hx hb hts (fun _ h => List.mem_cons_of_mem _ (List.mem_append_left _ (List.mem_append_right _ h))) hown hK.1 hP 0 rfl rfl 4 (by decide) (hts (.fieldLink RX3 34 "LieNights" "secret" "LLieNights$Secret;") (List.mem_of_getElem? (i := 2) rfl)) (fun _ h9 => h9) rfl dX3_as_27 ?_
      refine lv_iload_n hx hb dX3_as_30 rfl (lv_at hl 1 rfl) ?_
      refine kPi (va_runV (As := [.int x]) (rest := []) ⟨hx, hb, hml, hown, hts⟩ (c_X1_kindOf l D cI cS q0 q1 q2 q3 an pn gr kd pl wt x) (cwV 1 hts gX3_as_X1_kindOf rfl rfl rfl q_X1_kindOf ⟨Nat.le_of_ble_eq_true rfl, Nat.le_of_ble_eq_true rfl⟩) (kPV hK hP [4, 5, 6, 7] rfl (va_recv hK.1 hP (ci := 1) (q0 := 4) rfl rfl) [.int x]) rfl rfl hl.1 rfl (lv_room (Nat.le_of_ble_eq_true rfl)) dX3_as_31 ⟨Nat.zero_le _, Nat.zero_le _⟩) ?_
      refine lv_iload_n hx hb dX3_as_34 rfl (lv_at hl 2 rfl) ?_
      refine lv_icmp_lt (tgt := 42) hx hb dX3_as_35 (by decide) (fun c35 => ?_) (fun c35 => ?_)
      · skip
        refine lv_aload_n hx hb dX3_as_42 rfl (lv_at hl 0 rfl) ?_
        refine lv_iconst (v := 2) hx hb dX3_as_43 (by decide) ?_
        refine kMi (wl' := (wL17 cI cS h sa p0 aa ab q0 b0 q0 q1 q2 q3 b0 b1 b2 b3 p1 p2 p3 p4 sf old rd tr 2 ask shw an pn gr kd pl wt ban bpn bgr bkd bpl bwt al wo fi ni pa)) (wc := (wL1 cI h sa p0 aa ab q0 b0 old rd tr 0)) (w1 := (wL1 cI h sa p0 aa ab q0 b0 old rd tr 2)) hP hD hS [0] rfl rfl rfl (va_runV (As := [.int 2]) (rest := []) ⟨hx, hb, hml, hown, hts⟩ (c_X3_faulted l D cI cS h sa p0 aa ab q0 b0 old rd tr 0 2) (cwV 1 hts gX3_as_X3_faulted rfl rfl rfl q_X3_faulted ⟨Nat.le_of_ble_eq_true rfl, Nat.le_of_ble_eq_true rfl⟩) (kMV hK hP hD [0] rfl rfl (va_recv hK.1 hP (ci := 3) (q0 := 0) rfl rfl) [.int 2]) rfl rfl hl.1 rfl (lv_room (Nat.le_of_ble_eq_true rfl)) dX3_as_44 ⟨Nat.zero_le _, Nat.zero_le _⟩) (fun H locs hP hD hS => ?_)
        have hR1 : (fX3_as an kd x ki) = (((-10) - 2), 2) := (by unfold fX3_as; rw [if_neg c10, if_neg c20, if_pos c35])
        rw [hQ]
        exact W.iret (v := ((-10) - 2)) hx hb hr (fun t ht hW => ⟨⟨_, (), rfl, (by show _ = _; rw [hR1]), (by show va_P D vwCl _ t.heap; rw [hR1, ht]; exact hP)⟩, hS.F ht⟩) hS.2.2 dX3_as_47
      refine lv_iconst (v := 1) hx hb dX3_as_38 (by decide) ?_
      refine lv_goto (tgt := 47) hx hb dX3_as_39 (by decide) ?_
      have hR2 : (fX3_as an kd x ki) = (1, 0) := (by unfold fX3_as; rw [if_neg c10, if_neg c20, if_neg c35])
      rw [hQ]
      exact W.iret (v := 1) hx hb hr (fun t ht hW => ⟨⟨_, (), rfl, (by show _ = _; rw [hR2]), (by show va_P D vwCl _ t.heap; rw [hR2, ht]; exact hP)⟩, hS.F ht⟩) hS.2.2 dX3_as_47
    refine lv_bipush (v := (-2)) hx hb dX3_as_23 (by decide) ?_
    have hR3 : (fX3_as an kd x ki) = ((-2), 0) := (by unfold fX3_as; rw [if_neg c10, if_pos c20])
    rw [hQ]
    exact W.iret (v := (-2)) hx hb hr (fun t ht hW => ⟨⟨_, (), rfl, (by show _ = _; rw [hR3]), (by show va_P D vwCl _ t.heap; rw [hR3, ht]; exact hP)⟩, hS.F ht⟩) hS.2.2 dX3_as_25
  refine lv_iconst (v := (-1)) hx hb dX3_as_13 (by decide) ?_
  have hR4 : (fX3_as an kd x ki) = ((-1), 0) := (by unfold fX3_as; rw [if_pos c10])
  rw [hQ]
  exact W.iret (v := (-1)) hx hb hr (fun t ht hW => ⟨⟨_, (), rfl, (by show _ = _; rw [hR4]), (by show va_P D vwCl _ t.heap; rw [hR4, ht]; exact hP)⟩, hS.F ht⟩) hS.2.2 dX3_as_14

def fX3_trace (tr : Int32) : Int32 := tr
theorem q_X3_trace : yX3_trace.cls = RX3 ∧ yX3_trace.cls ≠ "java/lang/invoke/MethodHandle" ∧ yX3_trace.cls ≠ "java/lang/invoke/VarHandle" ∧ (parseMethodDescriptor yX3_trace.desc).map (fun d => d.parameters.length) = some 0 := by decide +kernel
set_option maxHeartbeats 4000000 in
set_option maxRecDepth 100000 in
theorem c_X3_trace (l : Launch) (D : va_G) (cI cS : ClassId) (h sa p0 aa ab q0 q1 q2 q3 b0 b1 b2 b3 p1 p2 p3 p4 : Nat) (sf : Nat → Option Nat) (old rd tr lf : Int32) (ask shw : Nat → Int32) (an pn gr : Int32) (kd pl wt : Nat → Int32) (ban bpn bgr : Int32) (bkd bpl bwt al wo fi ni : Nat → Int32) (pa : Int32)  : PMi l yX3_trace wsX3_trace { frames := 0, cells := 0, slots := 0, locals := 0 } D cI cS (wL17 cI cS h sa p0 aa ab q0 b0 q0 q1 q2 q3 b0 b1 b2 b3 p1 p2 p3 p4 sf old rd tr lf ask shw an pn gr kd pl wt ban bpn bgr bkd bpl bwt al wo fi ni pa) [.ref h] (fX3_trace tr) := by
  refine kEnter (cc := cX3_trace) (maxL := 1) (ret := (some .int)) (by decide) rfl (Nat.le_of_ble_eq_true rfl) ?_
  intro p e s m below meth c ls Qf hQ hx hb hml hr hlocks hown hts hK hP hl
  have hown : s.vm.findClass RX3 = some m.cls := hown
  have hl : lv_has ls 1 [(0, .ref h)] := hl
  refine lv_aload_n hx hb dX3_trace_0 rfl (lv_at hl 0 rfl) ?_
  refine va_get (D := D) (ci := 3) (v := .int tr) (C := RX3) (T := TX3) (N := 10) hx hb hts (fun _ h => List.mem_cons_of_mem _ (List.mem_append_right _ h)) hown hK.1 hP 0 rfl rfl 8 (by decide) (hts (.fieldLink RX3 213 "LieNights" "trace" "I") (List.mem_of_getElem? (i := 1) rfl)) (fun _ h9 => h9) rfl dX3_trace_1 ?_
  have hR1 : (fX3_trace tr) = tr := rfl
  rw [hQ]
  exact W.iret (v := tr) hx hb hr (fun t ht hW => ⟨_, rfl, hR1.symm, ht⟩) (fun q h => by cases h) dX3_trace_4

def fX3_fault (lf : Int32) : Int32 := lf
theorem q_X3_fault : yX3_fault.cls = RX3 ∧ yX3_fault.cls ≠ "java/lang/invoke/MethodHandle" ∧ yX3_fault.cls ≠ "java/lang/invoke/VarHandle" ∧ (parseMethodDescriptor yX3_fault.desc).map (fun d => d.parameters.length) = some 0 := by decide +kernel
set_option maxHeartbeats 4000000 in
set_option maxRecDepth 100000 in
theorem c_X3_fault (l : Launch) (D : va_G) (cI cS : ClassId) (h sa p0 aa ab q0 q1 q2 q3 b0 b1 b2 b3 p1 p2 p3 p4 : Nat) (sf : Nat → Option Nat) (old rd tr lf : Int32) (ask shw : Nat → Int32) (an pn gr : Int32) (kd pl wt : Nat → Int32) (ban bpn bgr : Int32) (bkd bpl bwt al wo fi ni : Nat → Int32) (pa : Int32)  : PMi l yX3_fault wsX3_fault { frames := 0, cells := 0, slots := 0, locals := 0 } D cI cS (wL17 cI cS h sa p0 aa ab q0 b0 q0 q1 q2 q3 b0 b1 b2 b3 p1 p2 p3 p4 sf old rd tr lf ask shw an pn gr kd pl wt ban bpn bgr bkd bpl bwt al wo fi ni pa) [.ref h] (fX3_fault lf) := by
  refine kEnter (cc := cX3_fault) (maxL := 1) (ret := (some .int)) (by decide) rfl (Nat.le_of_ble_eq_true rfl) ?_
  intro p e s m below meth c ls Qf hQ hx hb hml hr hlocks hown hts hK hP hl
  have hown : s.vm.findClass RX3 = some m.cls := hown
  have hl : lv_has ls 1 [(0, .ref h)] := hl
  refine lv_aload_n hx hb dX3_fault_0 rfl (lv_at hl 0 rfl) ?_
  refine va_get (D := D) (ci := 3) (v := .int lf) (C := RX3) (T := TX3) (N := 10) hx hb hts (fun _ h => List.mem_cons_of_mem _ (List.mem_append_right _ h)) hown hK.1 hP 0 rfl rfl 9 (by decide) (hts (.fieldLink RX3 45 "LieNights" "lastFault" "I") (List.mem_of_getElem? (i := 1) rfl)) (fun _ h9 => h9) rfl dX3_fault_1 ?_
  have hR1 : (fX3_fault lf) = lf := rfl
  rw [hQ]
  exact W.iret (v := lf) hx hb hr (fun t ht hW => ⟨_, rfl, hR1.symm, ht⟩) (fun q h => by cases h) dX3_fault_4

def fX3_many (rd an pn gr wh : Int32) : Int32 := (if wh = 0 then (fX1_answers an) else (if wh = 1 then (fX1_pillars pn) else (if wh = 2 then (fX1_growth gr) else (if wh = 3 then rd else (-2)))))
theorem q_X3_many : yX3_many.cls = RX3 ∧ yX3_many.cls ≠ "java/lang/invoke/MethodHandle" ∧ yX3_many.cls ≠ "java/lang/invoke/VarHandle" ∧ (parseMethodDescriptor yX3_many.desc).map (fun d => d.parameters.length) = some 1 := by decide +kernel
set_option maxHeartbeats 4000000 in
set_option maxRecDepth 100000 in
theorem c_X3_many (l : Launch) (D : va_G) (cI cS : ClassId) (h sa p0 aa ab q0 q1 q2 q3 b0 b1 b2 b3 p1 p2 p3 p4 : Nat) (sf : Nat → Option Nat) (old rd tr lf : Int32) (ask shw : Nat → Int32) (an pn gr : Int32) (kd pl wt : Nat → Int32) (ban bpn bgr : Int32) (bkd bpl bwt al wo fi ni : Nat → Int32) (pa wh : Int32)  : PMi l yX3_many wsX3_many { frames := 1, cells := 0, slots := 0, locals := 20 } D cI cS (wL17 cI cS h sa p0 aa ab q0 b0 q0 q1 q2 q3 b0 b1 b2 b3 p1 p2 p3 p4 sf old rd tr lf ask shw an pn gr kd pl wt ban bpn bgr bkd bpl bwt al wo fi ni pa) [.ref h, .int wh] (fX3_many rd an pn gr wh) := by
  refine kEnter (cc := cX3_many) (maxL := 2) (ret := (some .int)) (by decide) rfl (Nat.le_of_ble_eq_true rfl) ?_
  intro p e s m below meth c ls Qf hQ hx hb hml hr hlocks hown hts hK hP hl
  have hown : s.vm.findClass RX3 = some m.cls := hown
  have hl : lv_has ls 2 [(0, .ref h), (1, .int wh)] := hl
  refine lv_iload_n hx hb dX3_many_0 rfl (lv_at hl 1 rfl) ?_
  by_cases c1_0 : wh = 0
  · skip
    refine lv_tableIn (tgt := 32) (off := 31) hx hb dX3_many_1 (by rw [c1_0]; decide) (by rw [c1_0]; decide) (by rw [c1_0]; decide) (by decide) ?_
    refine lv_aload_n hx hb dX3_many_32 rfl (lv_at hl 0 rfl) ?_
    refine va_get (D := D) (ci := 3) (v := .ref q0) (C := RX3) (T := TX3) (N := 10) hx hb hts (fun _ h => List.mem_cons_of_mem _ (List.mem_append_left _ (List.mem_append_right _ h))) hown hK.1 hP 0 rfl rfl 4 (by decide) (hts (.fieldLink RX3 34 "LieNights" "secret" "LLieNights$Secret;") (List.mem_of_getElem? (i := 1) rfl)) (fun _ h9 => h9) rfl dX3_many_33 ?_
    refine kPi (va_runV (As := []) (rest := []) ⟨hx, hb, hml, hown, hts⟩ (c_X1_answers l D cI cS q0 q1 q2 q3 an pn gr kd pl wt) (cwV 0 hts gX3_many_X1_answers rfl rfl rfl q_X1_answers ⟨Nat.le_of_ble_eq_true rfl, Nat.le_of_ble_eq_true rfl⟩) (kPV hK hP [4, 5, 6, 7] rfl (va_recv hK.1 hP (ci := 1) (q0 := 4) rfl rfl) []) rfl rfl hl.1 rfl (lv_room (Nat.le_of_ble_eq_true rfl)) dX3_many_36 ⟨Nat.zero_le _, Nat.zero_le _⟩) ?_
    have hR1 : (fX3_many rd an pn gr wh) = (fX1_answers an) := (by unfold fX3_many; rw [if_pos c1_0])
    rw [hQ]
    exact W.iret (v := (fX1_answers an)) hx hb hr (fun t ht hW => ⟨_, rfl, hR1.symm, ht⟩) (fun q h => by cases h) dX3_many_39
  by_cases c1_1 : wh = 1
  · skip
    refine lv_tableIn (tgt := 40) (off := 39) hx hb dX3_many_1 (by rw [c1_1]; decide) (by rw [c1_1]; decide) (by rw [c1_1]; decide) (by decide) ?_
    refine lv_aload_n hx hb dX3_many_40 rfl (lv_at hl 0 rfl) ?_
    refine va_get (D := D) (ci := 3) (v := .ref q0) (C := RX3) (T := TX3) (N := 10) hx hb hts (fun _ h => List.mem_cons_of_mem _ (List.mem_append_left _ (List.mem_append_right _ h))) hown hK.1 hP 0 rfl rfl 4 (by decide) (hts (.fieldLink RX3 34 "LieNights" "secret" "LLieNights$Secret;") (List.mem_of_getElem? (i := 1) rfl)) (fun _ h9 => h9) rfl dX3_many_41 ?_
    refine kPi (va_runV (As := []) (rest := []) ⟨hx, hb, hml, hown, hts⟩ (c_X1_pillars l D cI cS q0 q1 q2 q3 an pn gr kd pl wt) (cwV 0 hts gX3_many_X1_pillars rfl rfl rfl q_X1_pillars ⟨Nat.le_of_ble_eq_true rfl, Nat.le_of_ble_eq_true rfl⟩) (kPV hK hP [4, 5, 6, 7] rfl (va_recv hK.1 hP (ci := 1) (q0 := 4) rfl rfl) []) rfl rfl hl.1 rfl (lv_room (Nat.le_of_ble_eq_true rfl)) dX3_many_44 ⟨Nat.zero_le _, Nat.zero_le _⟩) ?_
    have hR2 : (fX3_many rd an pn gr wh) = (fX1_pillars pn) := (by unfold fX3_many; rw [if_neg c1_0, if_pos c1_1])
    rw [hQ]
    exact W.iret (v := (fX1_pillars pn)) hx hb hr (fun t ht hW => ⟨_, rfl, hR2.symm, ht⟩) (fun q h => by cases h) dX3_many_47
  by_cases c1_2 : wh = 2
  · skip
    refine lv_tableIn (tgt := 48) (off := 47) hx hb dX3_many_1 (by rw [c1_2]; decide) (by rw [c1_2]; decide) (by rw [c1_2]; decide) (by decide) ?_
    refine lv_aload_n hx hb dX3_many_48 rfl (lv_at hl 0 rfl) ?_
    refine va_get (D := D) (ci := 3) (v := .ref q0) (C := RX3) (T := TX3) (N := 10) hx hb hts (fun _ h => List.mem_cons_of_mem _ (List.mem_append_left _ (List.mem_append_right _ h))) hown hK.1 hP 0 rfl rfl 4 (by decide) (hts (.fieldLink RX3 34 "LieNights" "secret" "LLieNights$Secret;") (List.mem_of_getElem? (i := 1) rfl)) (fun _ h9 => h9) rfl dX3_many_49 ?_
    refine kPi (va_runV (As := []) (rest := []) ⟨hx, hb, hml, hown, hts⟩ (c_X1_growth l D cI cS q0 q1 q2 q3 an pn gr kd pl wt) (cwV 0 hts gX3_many_X1_growth rfl rfl rfl q_X1_growth ⟨Nat.le_of_ble_eq_true rfl, Nat.le_of_ble_eq_true rfl⟩) (kPV hK hP [4, 5, 6, 7] rfl (va_recv hK.1 hP (ci := 1) (q0 := 4) rfl rfl) []) rfl rfl hl.1 rfl (lv_room (Nat.le_of_ble_eq_true rfl)) dX3_many_52 ⟨Nat.zero_le _, Nat.zero_le _⟩) ?_
    have hR3 : (fX3_many rd an pn gr wh) = (fX1_growth gr) := (by unfold fX3_many; rw [if_neg c1_0, if_neg c1_1, if_pos c1_2])
    rw [hQ]
    exact W.iret (v := (fX1_growth gr)) hx hb hr (fun t ht hW => ⟨_, rfl, hR3.symm, ht⟩) (fun q h => by cases h) dX3_many_55
  by_cases c1_3 : wh = 3
  · skip
    refine lv_tableIn (tgt := 56) (off := 55) hx hb dX3_many_1 (by rw [c1_3]; decide) (by rw [c1_3]; decide) (by rw [c1_3]; decide) (by decide) ?_
    refine lv_aload_n hx hb dX3_many_56 rfl (lv_at hl 0 rfl) ?_
    refine va_get (D := D) (ci := 3) (v := .int rd) (C := RX3) (T := TX3) (N := 10) hx hb hts (fun _ h => List.mem_cons_of_mem _ (List.mem_append_left _ (List.mem_append_right _ h))) hown hK.1 hP 0 rfl rfl 7 (by decide) (hts (.fieldLink RX3 161 "LieNights" "readings" "I") (List.mem_of_getElem? (i := 2) rfl)) (fun _ h9 => h9) rfl dX3_many_57 ?_
    have hR4 : (fX3_many rd an pn gr wh) = rd := (by unfold fX3_many; rw [if_neg c1_0, if_neg c1_1, if_neg c1_2, if_pos c1_3])
    rw [hQ]
    exact W.iret (v := rd) hx hb hr (fun t ht hW => ⟨_, rfl, hR4.symm, ht⟩) (fun q h => by cases h) dX3_many_60
  refine lv_tableOut (tgt := 61) hx hb dX3_many_1 (by have h0 := lv_neT (k := 0) (a := 0) c1_0 rfl; have h1 := lv_neT (k := 1) (a := 1) c1_1 rfl; have h2 := lv_neT (k := 2) (a := 2) c1_2 rfl; have h3 := lv_neT (k := 3) (a := 3) c1_3 rfl; omega) (by decide) ?_
  refine lv_bipush (v := (-2)) hx hb dX3_many_61 (by decide) ?_
  have hR5 : (fX3_many rd an pn gr wh) = (-2) := (by unfold fX3_many; rw [if_neg c1_0, if_neg c1_1, if_neg c1_2, if_neg c1_3])
  rw [hQ]
  exact W.iret (v := (-2)) hx hb hr (fun t ht hW => ⟨_, rfl, hR5.symm, ht⟩) (fun q h => by cases h) dX3_many_63
