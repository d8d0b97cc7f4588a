def fX4_ofAnswer (an : Int32) (kd pl : Nat → Int32) (x wh : Int32) : Int32 := (if (fX4_isAnswer an x) = 0 then (-1) else (if wh = 0 then (kd x.toNatClampNeg) else (if wh = 1 then (pl x.toNatClampNeg) else (-2))))
theorem q_X4_ofAnswer : yX4_ofAnswer.cls = RX4 ∧ yX4_ofAnswer.cls ≠ "java/lang/invoke/MethodHandle" ∧ yX4_ofAnswer.cls ≠ "java/lang/invoke/VarHandle" ∧ (parseMethodDescriptor yX4_ofAnswer.desc).map (fun d => d.parameters.length) = some 2 := by decide +kernel
set_option maxHeartbeats 4000000 in
set_option maxRecDepth 100000 in
theorem c_X4_ofAnswer (l : Launch) (D : va_G) (cI cS : ClassId) (h m1 m2 m3 m4 m5 m6 m7 m8 m9 m10 m11 m12 m13 : Nat) (lf tr an pn gr ax ra rp rg rd : Int32) (so sl ces kd pl wt xk xp xw wo su ask shw : Nat → Int32) (N : Nat) (x wh : Int32) (ha : an = nI N) (hN : N ≤ 6) : PMi l yX4_ofAnswer wsX4_ofAnswer { frames := 1, cells := 0, slots := 0, locals := 21 } D cI cS (wMo cI h m1 m2 m3 m4 m5 m6 m7 m8 m9 m10 m11 m12 m13 lf tr an pn gr ax ra rp rg rd so sl ces kd pl wt xk xp xw wo su ask shw) [.ref h, .int x, .int wh] (fX4_ofAnswer an kd pl x wh) := by
  refine kEnter (cc := cX4_ofAnswer) (maxL := 3) (ret := (some .int)) (by decide) rfl (Nat.le_of_ble_eq_true rfl) ?_
  intro p e s m below meth c ls Qf hQ hx hb hml hr hlocks hown hts hK hP hl
  have hown : s.vm.findClass RX4 = some m.cls := hown
  have hl : lv_has ls 3 [(0, .ref h), (1, .int x), (2, .int wh)] := hl
  refine lv_aload_n hx hb dX4_ofAnswer_0 rfl (lv_at hl 0 rfl) ?_
  refine lv_iload_n hx hb dX4_ofAnswer_1 rfl (lv_at hl 1 rfl) ?_
  refine kPi (va_runV (As := [.int x]) (rest := []) ⟨hx, hb, hml, hown, hts⟩ (c_X4_isAnswer l D cI cS h m1 m2 m3 m4 m5 m6 m7 m8 m9 m10 m11 m12 m13 lf tr an pn gr ax ra rp rg rd so sl ces kd pl wt xk xp xw wo su ask shw x) (cwV 1 hts gX4_ofAnswer_X4_isAnswer rfl rfl rfl q_X4_isAnswer ⟨Nat.le_of_ble_eq_true rfl, Nat.le_of_ble_eq_true rfl⟩) (kPV hK hP [0, 1, 2, 3, 4, 5, 6, 7, 8, 9, 10, 11, 12, 13] rfl (va_recv hK.1 hP (ci := 4) (q0 := 0) rfl rfl) [.int x]) rfl rfl hl.1 rfl (lv_room (Nat.le_of_ble_eq_true rfl)) dX4_ofAnswer_2 ⟨Nat.zero_le _, Nat.zero_le _⟩) ?_
  refine lv_if_ne (tgt := 10) hx hb dX4_ofAnswer_5 (by decide) (fun c5 => ?_) (fun c5 => ?_)
  · skip
    refine lv_iload_n hx hb dX4_ofAnswer_10 rfl (lv_at hl 2 rfl) ?_
    refine lv_if_ne (tgt := 23) hx hb dX4_ofAnswer_11 (by decide) (fun c11 => ?_) (fun c11 => ?_)
    · skip
      refine lv_iload_n hx hb dX4_ofAnswer_23 rfl (lv_at hl 2 rfl) ?_
      refine lv_iconst (v := 1) hx hb dX4_ofAnswer_24 (by decide) ?_
      refine lv_icmp_ne (tgt := 37) hx hb dX4_ofAnswer_25 (by decide) (fun c25 => ?_) (fun c25 => ?_)
      · skip
        refine lv_bipush (v := (-2)) hx hb dX4_ofAnswer_37 (by decide) ?_
        have hR1 : (fX4_ofAnswer an kd pl x wh) = (-2) := (by unfold fX4_ofAnswer; rw [if_neg c5, if_neg c11, if_neg c25])
        rw [hQ]
        exact W.iret (v := (-2)) hx hb hr (fun t ht hW => ⟨_, rfl, hR1.symm, ht⟩) (fun q h => by cases h) dX4_ofAnswer_39
      refine lv_aload_n hx hb dX4_ofAnswer_28 rfl (lv_at hl 0 rfl) ?_
      refine va_get (D := D) (ci := 4) (v := .ref m5) (C := RX4) (T := TX4) (N := 23) hx hb hts (fun _ h => List.mem_cons_of_mem _ (List.mem_append_right _ h)) hown hK.1 hP 0 rfl rfl 9 (by decide) (hts (.fieldLink RX4 22 "LieNightsModel" "place" "[I") (List.mem_of_getElem? (i := 2) rfl)) (fun _ h9 => h9) rfl dX4_ofAnswer_29 ?_
      refine lv_iload_n hx hb dX4_ofAnswer_32 rfl (lv_at hl 1 rfl) ?_
      refine va_iald hx hb hK.1 hP 5 0 rfl rfl (mAns ha hN c5) dX4_ofAnswer_33 ?_
      refine lv_goto (tgt := 39) hx hb dX4_ofAnswer_34 (by decide) ?_
      have hR2 : (fX4_ofAnswer an kd pl x wh) = (pl x.toNatClampNeg) := (by unfold fX4_ofAnswer; rw [if_neg c5, if_neg c11, if_pos c25])
      rw [hQ]
      exact W.iret (v := (pl x.toNatClampNeg)) hx hb hr (fun t ht hW => ⟨_, rfl, hR2.symm, ht⟩) (fun q h => by cases h) dX4_ofAnswer_39
    refine lv_aload_n hx hb dX4_ofAnswer_14 rfl (lv_at hl 0 rfl) ?_
    refine va_get (D := D) (ci := 4) (v := .ref m4) (C := RX4) (T := TX4) (N := 23) hx hb hts (fun _ h => List.mem_cons_of_mem _ (List.mem_append_right _ h)) hown hK.1 hP 0 rfl rfl 8 (by decide) (hts (.fieldLink RX4 19 "LieNightsModel" "kind" "[I") (List.mem_of_getElem? (i := 1) rfl)) (fun _ h9 => h9) rfl dX4_ofAnswer_15 ?_
    refine lv_iload_n hx hb dX4_ofAnswer_18 rfl (lv_at hl 1 rfl) ?_
    refine va_iald hx hb hK.1 hP 4 0 rfl rfl (mAns ha hN c5) dX4_ofAnswer_19 ?_
    refine lv_goto (tgt := 39) hx hb dX4_ofAnswer_20 (by decide) ?_
    have hR3 : (fX4_ofAnswer an kd pl x wh) = (kd x.toNatClampNeg) := (by unfold fX4_ofAnswer; rw [if_neg c5, if_pos c11])
    rw [hQ]
    exact W.iret (v := (kd x.toNatClampNeg)) hx hb hr (fun t ht hW => ⟨_, rfl, hR3.symm, ht⟩) (fun q h => by cases h) dX4_ofAnswer_39
  refine lv_iconst (v := (-1)) hx hb dX4_ofAnswer_8 (by decide) ?_
  have hR4 : (fX4_ofAnswer an kd pl x wh) = (-1) := (by unfold fX4_ofAnswer; rw [if_pos c5])
  rw [hQ]
  exact W.iret (v := (-1)) hx hb hr (fun t ht hW => ⟨_, rfl, hR4.symm, ht⟩) (fun q h => by cases h) dX4_ofAnswer_9

def fX4_move (an : Int32) (pl : Nat → Int32) (x v : Int32) : Int32 × (Nat → Int32) := (if (fX4_isAnswer an x) = 0 then ((-1), pl) else (if (fX4_within v 0 9) = 0 then ((-2), pl) else ((pl x.toNatClampNeg), (upd pl x.toNatClampNeg v))))
theorem q_X4_move : yX4_move.cls = RX4 ∧ yX4_move.cls ≠ "java/lang/invoke/MethodHandle" ∧ yX4_move.cls ≠ "java/lang/invoke/VarHandle" ∧ (parseMethodDescriptor yX4_move.desc).map (fun d => d.parameters.length) = some 2 := by decide +kernel
set_option maxHeartbeats 4000000 in
set_option maxRecDepth 100000 in
theorem c_X4_move (l : Launch) (D : va_G) (cI cS : ClassId) (h m1 m2 m3 m4 m5 m6 m7 m8 m9 m10 m11 m12 m13 : Nat) (lf tr an pn gr ax ra rp rg rd : Int32) (so sl ces kd pl wt xk xp xw wo su ask shw : Nat → Int32) (N : Nat) (x v : Int32) (ha : an = nI N) (hN : N ≤ 6) : MMi l yX4_move wsX4_move { frames := 1, cells := 0, slots := 0, locals := 22 } D cI cS (wMo cI h m1 m2 m3 m4 m5 m6 m7 m8 m9 m10 m11 m12 m13 lf tr an pn gr ax ra rp rg rd so sl ces kd pl wt xk xp xw wo su ask shw) [.ref h, .int x, .int v] ((fX4_move an pl x v).1) (wMo cI h m1 m2 m3 m4 m5 m6 m7 m8 m9 m10 m11 m12 m13 lf tr an pn gr ax ra rp rg rd so sl ces kd ((fX4_move an pl x v).2) wt xk xp xw wo su ask shw) := by
  refine kEnterM (cc := cX4_move) (maxL := 4) (ret := (some .int)) (by decide) rfl (Nat.le_of_ble_eq_true rfl) ?_
  intro p e s m below meth c ls Qf hQ hx hb hml hr hlocks hown hts hK hP hD hS hl
  have hown : s.vm.findClass RX4 = some m.cls := hown
  have hl : lv_has ls 4 [(0, .ref h), (1, .int x), (2, .int v)] := hl
  generalize kA (wMo cI h m1 m2 m3 m4 m5 m6 m7 m8 m9 m10 m11 m12 m13 lf tr an pn gr ax ra rp rg rd so sl ces kd pl wt xk xp xw wo su ask shw) = A at hQ hD hS
  refine lv_aload_n hx hb dX4_move_0 rfl (lv_at hl 0 rfl) ?_
  refine lv_iload_n hx hb dX4_move_1 rfl (lv_at hl 1 rfl) ?_
  refine kPi (va_runV (As := [.int x]) (rest := []) ⟨hx, hb, hml, hown, hts⟩ (c_X4_isAnswer l D cI cS h m1 m2 m3 m4 m5 m6 m7 m8 m9 m10 m11 m12 m13 lf tr an pn gr ax ra rp rg rd so sl ces kd pl wt xk xp xw wo su ask shw x) (cwV 1 hts gX4_move_X4_isAnswer rfl rfl rfl q_X4_isAnswer ⟨Nat.le_of_ble_eq_true rfl, Nat.le_of_ble_eq_true rfl⟩) (kPV hK hP [0, 1, 2, 3, 4, 5, 6, 7, 8, 9, 10, 11, 12, 13] rfl (va_recv hK.1 hP (ci := 4) (q0 := 0) rfl rfl) [.int x]) rfl rfl hl.1 rfl (lv_room (Nat.le_of_ble_eq_true rfl)) dX4_move_2 ⟨Nat.zero_le _, Nat.zero_le _⟩) ?_
  refine lv_if_ne (tgt := 10) hx hb dX4_move_5 (by decide) (fun c5 => ?_) (fun c5 => ?_)
  · skip
    refine lv_iload_n hx hb dX4_move_10 rfl (lv_at hl 2 rfl) ?_
    refine lv_iconst (v := 0) hx hb dX4_move_11 (by decide) ?_
    refine lv_bipush (v := 9) hx hb dX4_move_12 (by decide) ?_
    refine kPi (va_runS (As := [.int v, .int 0, .int 9]) (rest := []) ⟨hx, hb, hml, hown, hts⟩ (c_X4_within l D cI cS v 0 9) (va_cwS 3 hts gX4_move_X4_within rfl rfl rfl q_X4_within.2 ⟨Nat.le_of_ble_eq_true rfl, Nat.le_of_ble_eq_true rfl⟩) (kPS hK hP [] rfl [.int v, .int 0, .int 9]) rfl rfl hl.1 rfl (lv_room (Nat.le_of_ble_eq_true rfl)) dX4_move_14 ⟨Nat.zero_le _, Nat.zero_le _⟩) ?_
    refine lv_if_ne (tgt := 23) hx hb dX4_move_17 (by decide) (fun c17 => ?_) (fun c17 => ?_)
    · skip
      refine lv_aload_n hx hb dX4_move_23 rfl (lv_at hl 0 rfl) ?_
      refine va_get (D := D) (ci := 4) (v := .ref m5) (C := RX4) (T := TX4) (N := 23) hx hb hts (fun _ h => List.mem_cons_of_mem _ (List.mem_append_right _ h)) hown hK.1 hP 0 rfl rfl 9 (by decide) (hts (.fieldLink RX4 22 "LieNightsModel" "place" "[I") (List.mem_of_getElem? (i := 1) rfl)) (fun _ h9 => h9) rfl dX4_move_24 ?_
      refine lv_iload_n hx hb dX4_move_27 rfl (lv_at hl 1 rfl) ?_
      refine va_iald hx hb hK.1 hP 5 0 rfl rfl (mAns ha hN c5) dX4_move_28 ?_
      refine lv_istore_n (lv' := [(3, .int (pl x.toNatClampNeg)), (0, .ref h), (1, .int x), (2, .int v)]) hx hb dX4_move_29 rfl hl (by decide) rfl (fun ls hl => ?_)
      refine lv_aload_n hx hb dX4_move_30 rfl (lv_at hl 1 rfl) ?_
      refine va_get (D := D) (ci := 4) (v := .ref m5) (C := RX4) (T := TX4) (N := 23) hx hb hts (fun _ h => List.mem_cons_of_mem _ (List.mem_append_right _ h)) hown hK.1 hP 0 rfl rfl 9 (by decide) (hts (.fieldLink RX4 22 "LieNightsModel" "place" "[I") (List.mem_of_getElem? (i := 1) rfl)) (fun _ h9 => h9) rfl dX4_move_31 ?_
      refine lv_iload_n hx hb dX4_move_34 rfl (lv_at hl 2 rfl) ?_
      refine lv_iload_n hx hb dX4_move_35 rfl (lv_at hl 3 rfl) ?_
      refine va_iast hx hb hK.1 hP hD hS 5 0 rfl rfl (mAns ha hN c5) dX4_move_36 (fun H locs hP hD hS => ?_)
      have hP : va_P D vwCl (wMo cI h m1 m2 m3 m4 m5 m6 m7 m8 m9 m10 m11 m12 m13 lf tr an pn gr ax ra rp rg rd so sl ces kd (upd pl x.toNatClampNeg v) wt xk xp xw wo su ask shw) H := hP
      have hD : va_D A (wMo cI h m1 m2 m3 m4 m5 m6 m7 m8 m9 m10 m11 m12 m13 lf tr an pn gr ax ra rp rg rd so sl ces kd (upd pl x.toNatClampNeg v) wt xk xp xw wo su ask shw) := hD
      refine lv_iload_n hx hb dX4_move_37 rfl (lv_at hl 0 rfl) ?_
      have hR1 : (fX4_move an pl x v) = ((pl x.toNatClampNeg), (upd pl x.toNatClampNeg v)) := (by unfold fX4_move; rw [if_neg c5, if_neg c17])
      rw [hQ]
      exact W.iret (v := (pl x.toNatClampNeg)) hx hb hr (fun t ht hW => ⟨⟨_, (), rfl, (by show _ = _; rw [hR1]), (by show va_P D vwCl _ t.heap; rw [hR1, ht]; exact hP)⟩, hS.F ht⟩) hS.2.2 dX4_move_38
    refine lv_bipush (v := (-2)) hx hb dX4_move_20 (by decide) ?_
    have hR2 : (fX4_move an pl x v) = ((-2), pl) := (by unfold fX4_move; rw [if_neg c5, if_pos c17])
    rw [hQ]
    exact W.iret (v := (-2)) hx hb hr (fun t ht hW => ⟨⟨_, (), rfl, (by show _ = _; rw [hR2]), (by show va_P D vwCl _ t.heap; rw [hR2, ht]; exact hP)⟩, hS.F ht⟩) hS.2.2 dX4_move_22
  refine lv_iconst (v := (-1)) hx hb dX4_move_8 (by decide) ?_
  have hR3 : (fX4_move an pl x v) = ((-1), pl) := (by unfold fX4_move; rw [if_pos c5])
  rw [hQ]
  exact W.iret (v := (-1)) hx hb hr (fun t ht hW => ⟨⟨_, (), rfl, (by show _ = _; rw [hR3]), (by show va_P D vwCl _ t.heap; rw [hR3, ht]; exact hP)⟩, hS.F ht⟩) hS.2.2 dX4_move_9

def fX4_grow (an gr v : Int32) : Int32 × Int32 := (if (fX4_within v 0 9) = 0 then ((-2), gr) else (if an = 0 then ((-3), gr) else (gr, v)))
theorem q_X4_grow : yX4_grow.cls = RX4 ∧ yX4_grow.cls ≠ "java/lang/invoke/MethodHandle" ∧ yX4_grow.cls ≠ "java/lang/invoke/VarHandle" ∧ (parseMethodDescriptor yX4_grow.desc).map (fun d => d.parameters.length) = some 1 := by decide +kernel
set_option maxHeartbeats 4000000 in
set_option maxRecDepth 100000 in
theorem c_X4_grow (l : Launch) (D : va_G) (cI cS : ClassId) (h m1 m2 m3 m4 m5 m6 m7 m8 m9 m10 m11 m12 m13 : Nat) (lf tr an pn gr ax ra rp rg rd : Int32) (so sl ces kd pl wt xk xp xw wo su ask shw : Nat → Int32) (v : Int32)  : MMi l yX4_grow wsX4_grow { frames := 1, cells := 0, slots := 0, locals := 22 } D cI cS (wMo cI h m1 m2 m3 m4 m5 m6 m7 m8 m9 m10 m11 m12 m13 lf tr an pn gr ax ra rp rg rd so sl ces kd pl wt xk xp xw wo su ask shw) [.ref h, .int v] ((fX4_grow an gr v).1) (wMo cI h m1 m2 m3 m4 m5 m6 m7 m8 m9 m10 m11 m12 m13 lf tr an pn ((fX4_grow an gr v).2) ax ra rp rg rd so sl ces kd pl wt xk xp xw wo su ask shw) := by
  refine kEnterM (cc := cX4_grow) (maxL := 3) (ret := (some .int)) (by decide) rfl (Nat.le_of_ble_eq_true rfl) ?_
  intro p e s m below meth c ls Qf hQ hx hb hml hr hlocks hown hts hK hP hD hS hl
  have hown : s.vm.findClass RX4 = some m.cls := hown
  have hl : lv_has ls 3 [(0, .ref h), (1, .int v)] := hl
  generalize kA (wMo cI h m1 m2 m3 m4 m5 m6 m7 m8 m9 m10 m11 m12 m13 lf tr an pn gr ax ra rp rg rd so sl ces kd pl wt xk xp xw wo su ask shw) = A at hQ hD hS
  refine lv_iload_n hx hb dX4_grow_0 rfl (lv_at hl 1 rfl) ?_
  refine lv_iconst (v := 0) hx hb dX4_grow_1 (by decide) ?_
  refine lv_bipush (v := 9) hx hb dX4_grow_2 (by decide) ?_
  refine kPi (va_runS (As := [.int v, .int 0, .int 9]) (rest := []) ⟨hx, hb, hml, hown, hts⟩ (c_X4_within l D cI cS v 0 9) (va_cwS 3 hts gX4_grow_X4_within rfl rfl rfl q_X4_within.2 ⟨Nat.le_of_ble_eq_true rfl, Nat.le_of_ble_eq_true rfl⟩) (kPS hK hP [] rfl [.int v, .int 0, .int 9]) rfl rfl hl.1 rfl (lv_room (Nat.le_of_ble_eq_true rfl)) dX4_grow_4 ⟨Nat.zero_le _, Nat.zero_le _⟩) ?_
  refine lv_if_ne (tgt := 13) hx hb dX4_grow_7 (by decide) (fun c7 => ?_) (fun c7 => ?_)
  · skip
    refine lv_aload_n hx hb dX4_grow_13 rfl (lv_at hl 0 rfl) ?_
    refine va_get (D := D) (ci := 4) (v := .int an) (C := RX4) (T := TX4) (N := 23) hx hb hts (fun _ h => List.mem_cons_of_mem _ (List.mem_append_right _ h)) hown hK.1 hP 0 rfl rfl 5 (by decide) (hts (.fieldLink RX4 59 "LieNightsModel" "answers" "I") (List.mem_of_getElem? (i := 1) rfl)) (fun _ h9 => h9) rfl dX4_grow_14 ?_
    refine lv_if_ne (tgt := 23) hx hb dX4_grow_17 (by decide) (fun c17 => ?_) (fun c17 => ?_)
    · skip
      refine lv_aload_n hx hb dX4_grow_23 rfl (lv_at hl 0 rfl) ?_
      refine va_get (D := D) (ci := 4) (v := .int gr) (C := RX4) (T := TX4) (N := 23) hx hb hts (fun _ h => List.mem_cons_of_mem _ (List.mem_append_right _ h)) hown hK.1 hP 0 rfl rfl 7 (by decide) (hts (.fieldLink RX4 89 "LieNightsModel" "growth" "I") (List.mem_of_getElem? (i := 2) rfl)) (fun _ h9 => h9) rfl dX4_grow_24 ?_
      refine lv_istore_n (lv' := [(2, .int gr), (0, .ref h), (1, .int v)]) hx hb dX4_grow_27 rfl hl (by decide) rfl (fun ls hl => ?_)
      refine lv_aload_n hx hb dX4_grow_28 rfl (lv_at hl 1 rfl) ?_
      refine lv_iload_n hx hb dX4_grow_29 rfl (lv_at hl 2 rfl) ?_
      refine va_put (D := D) (ci := 4) (v := .int v) (ty := tyX4 7) (C := RX4) (T := TX4) (N := 23) hx hb hts (fun _ h => List.mem_cons_of_mem _ (List.mem_append_right _ h)) tyX4 tyX4_ok nmX4 hown hK.1 hP hD hS 0 rfl rfl 7 (by decide) (hts (.fieldLink RX4 89 "LieNightsModel" "growth" "I") (List.mem_of_getElem? (i := 2) rfl)) (fun _ h9 => h9) rfl (tyX4_ok 7 (by decide)) rfl rfl (Nat.le_of_ble_eq_true rfl) dX4_grow_30 (fun H locs hP hD hS => ?_)
      have hP : va_P D vwCl (wMo cI h m1 m2 m3 m4 m5 m6 m7 m8 m9 m10 m11 m12 m13 lf tr an pn v ax ra rp rg rd so sl ces kd pl wt xk xp xw wo su ask shw) H := hP
      have hD : va_D A (wMo cI h m1 m2 m3 m4 m5 m6 m7 m8 m9 m10 m11 m12 m13 lf tr an pn v ax ra rp rg rd so sl ces kd pl wt xk xp xw wo su ask shw) := hD
      refine lv_iload_n hx hb dX4_grow_33 rfl (lv_at hl 0 rfl) ?_
      have hR1 : (fX4_grow an gr v) = (gr, v) := (by unfold fX4_grow; rw [if_neg c7, if_neg c17])
      rw [hQ]
      exact W.iret (v := gr) hx hb hr (fun t ht hW => ⟨⟨_, (), rfl, (by show _ = _; rw [hR1]), (by show va_P D vwCl _ t.heap; rw [hR1, ht]; exact hP)⟩, hS.F ht⟩) hS.2.2 dX4_grow_34
    refine lv_bipush (v := (-3)) hx hb dX4_grow_20 (by decide) ?_
    have hR2 : (fX4_grow an gr v) = ((-3), gr) := (by unfold fX4_grow; rw [if_neg c7, if_pos c17])
    rw [hQ]
    exact W.iret (v := (-3)) hx hb hr (fun t ht hW => ⟨⟨_, (), rfl, (by show _ = _; rw [hR2]), (by show va_P D vwCl _ t.heap; rw [hR2, ht]; exact hP)⟩, hS.F ht⟩) hS.2.2 dX4_grow_22
  refine lv_bipush (v := (-2)) hx hb dX4_grow_10 (by decide) ?_
  have hR3 : (fX4_grow an gr v) = ((-2), gr) := (by unfold fX4_grow; rw [if_pos c7])
  rw [hQ]
  exact W.iret (v := (-2)) hx hb hr (fun t ht hW => ⟨⟨_, (), rfl, (by show _ = _; rw [hR3]), (by show va_P D vwCl _ t.heap; rw [hR3, ht]; exact hP)⟩, hS.F ht⟩) hS.2.2 dX4_grow_12

def fX4_shown (an : Int32) (kd pl : Nat → Int32) (x t : Int32) : Int32 := (if (fX4_isAnswer an x) = 0 then (-1) else (if (fX4_isAnswer an t) = 0 then (-1) else (fX4_shownBy kd pl x t)))
theorem q_X4_shown : yX4_shown.cls = RX4 ∧ yX4_shown.cls ≠ "java/lang/invoke/MethodHandle" ∧ yX4_shown.cls ≠ "java/lang/invoke/VarHandle" ∧ (parseMethodDescriptor yX4_shown.desc).map (fun d => d.parameters.length) = some 2 := by decide +kernel
set_option maxHeartbeats 4000000 in
set_option maxRecDepth 100000 in
theorem c_X4_shown (l : Launch) (D : va_G) (cI cS : ClassId) (h m1 m2 m3 m4 m5 m6 m7 m8 m9 m10 m11 m12 m13 : Nat) (lf tr an pn gr ax ra rp rg rd : Int32) (so sl ces kd pl wt xk xp xw wo su ask shw : Nat → Int32) (N : Nat) (x t : Int32) (ha : an = nI N) (hN : N ≤ 6) : PMi l yX4_shown wsX4_shown { frames := 1, cells := 0, slots := 0, locals := 23 } D cI cS (wMo cI h m1 m2 m3 m4 m5 m6 m7 m8 m9 m10 m11 m12 m13 lf tr an pn gr ax ra rp rg rd so sl ces kd pl wt xk xp xw wo su ask shw) [.ref h, .int x, .int t] (fX4_shown an kd pl x t) := by
  refine kEnter (cc := cX4_shown) (maxL := 3) (ret := (some .int)) (by decide) rfl (Nat.le_of_ble_eq_true rfl) ?_
  intro p e s m below meth c ls Qf hQ hx hb hml hr hlocks hown hts hK hP hl
  have hown : s.vm.findClass RX4 = some m.cls := hown
  have hl : lv_has ls 3 [(0, .ref h), (1, .int x), (2, .int t)] := hl
  refine lv_aload_n hx hb dX4_shown_0 rfl (lv_at hl 0 rfl) ?_
  refine lv_iload_n hx hb dX4_shown_1 rfl (lv_at hl 1 rfl) ?_
  refine kPi (va_runV (As := [.int x]) (rest := []) ⟨hx, hb, hml, hown, hts⟩ (c_X4_isAnswer l D cI cS h m1 m2 m3 m4 m5 m6 m7 m8 m9 m10 m11 m12 m13 lf tr an pn gr ax ra rp rg rd so sl ces kd pl wt xk xp xw wo su ask shw x) (cwV 1 hts gX4_shown_X4_isAnswer rfl rfl rfl q_X4_isAnswer ⟨Nat.le_of_ble_eq_true rfl, Nat.le_of_ble_eq_true rfl⟩) (kPV hK hP [0, 1, 2, 3, 4, 5, 6, 7, 8, 9, 10, 11, 12, 13] rfl (va_recv hK.1 hP (ci := 4) (q0 := 0) rfl rfl) [.int x]) rfl rfl hl.1 rfl (lv_room (Nat.le_of_ble_eq_true rfl)) dX4_shown_2 ⟨Nat.zero_le _, Nat.zero_le _⟩) ?_
  refine lv_if_eq (tgt := 25) hx hb dX4_shown_5 (by decide) (fun c5 => ?_) (fun c5 => ?_)
  · skip
    refine lv_iconst (v := (-1)) hx hb dX4_shown_25 (by decide) ?_
    have hR1 : (fX4_shown an kd pl x t) = (-1) := (by unfold fX4_shown; rw [if_pos c5])
    rw [hQ]
    exact W.iret (v := (-1)) hx hb hr (fun t ht hW => ⟨_, rfl, hR1.symm, ht⟩) (fun q h => by cases h) dX4_shown_26
  refine lv_aload_n hx hb dX4_shown_8 rfl (lv_at hl 0 rfl) ?_
  refine lv_iload_n hx hb dX4_shown_9 rfl (lv_at hl 2 rfl) ?_
  refine kPi (va_runV (As := [.int t]) (rest := []) ⟨hx, hb, hml, hown, hts⟩ (c_X4_isAnswer l D cI cS h m1 m2 m3 m4 m5 m6 m7 m8 m9 m10 m11 m12 m13 lf tr an pn gr ax ra rp rg rd so sl ces kd pl wt xk xp xw wo su ask shw t) (cwV 1 hts gX4_shown_X4_isAnswer rfl rfl rfl q_X4_isAnswer ⟨Nat.le_of_ble_eq_true rfl, Nat.le_of_ble_eq_true rfl⟩) (kPV hK hP [0, 1, 2, 3, 4, 5, 6, 7, 8, 9, 10, 11, 12, 13] rfl (va_recv hK.1 hP (ci := 4) (q0 := 0) rfl rfl) [.int t]) rfl rfl hl.1 rfl (lv_room (Nat.le_of_ble_eq_true rfl)) dX4_shown_10 ⟨Nat.zero_le _, Nat.zero_le _⟩) ?_
  refine lv_if_eq (tgt := 25) hx hb dX4_shown_13 (by decide) (fun c13 => ?_) (fun c13 => ?_)
  · skip
    refine lv_iconst (v := (-1)) hx hb dX4_shown_25 (by decide) ?_
    have hR2 : (fX4_shown an kd pl x t) = (-1) := (by unfold fX4_shown; rw [if_neg c5, if_pos c13])
    rw [hQ]
    exact W.iret (v := (-1)) hx hb hr (fun t ht hW => ⟨_, rfl, hR2.symm, ht⟩) (fun q h => by cases h) dX4_shown_26
  refine lv_aload_n hx hb dX4_shown_16 rfl (lv_at hl 0 rfl) ?_
  refine lv_iload_n hx hb dX4_shown_17 rfl (lv_at hl 1 rfl) ?_
  refine lv_iload_n hx hb dX4_shown_18 rfl (lv_at hl 2 rfl) ?_
  refine kPi (va_runV (As := [.int x, .int t]) (rest := []) ⟨hx, hb, hml, hown, hts⟩ (c_X4_shownBy l D cI cS h m1 m2 m3 m4 m5 m6 m7 m8 m9 m10 m11 m12 m13 lf tr an pn gr ax ra rp rg rd so sl ces kd pl wt xk xp xw wo su ask shw x t (mAns ha hN c5) (mAns ha hN c13)) (cwV 2 hts gX4_shown_X4_shownBy rfl rfl rfl q_X4_shownBy ⟨Nat.le_of_ble_eq_true rfl, Nat.le_of_ble_eq_true rfl⟩) (kPV hK hP [0, 1, 2, 3, 4, 5, 6, 7, 8, 9, 10, 11, 12, 13] rfl (va_recv hK.1 hP (ci := 4) (q0 := 0) rfl rfl) [.int x, .int t]) rfl rfl hl.1 rfl (lv_room (Nat.le_of_ble_eq_true rfl)) dX4_shown_19 ⟨Nat.zero_le _, Nat.zero_le _⟩) ?_
  refine lv_goto (tgt := 26) hx hb dX4_shown_22 (by decide) ?_
  have hR3 : (fX4_shown an kd pl x t) = (fX4_shownBy kd pl x t) := (by unfold fX4_shown; rw [if_neg c5, if_neg c13])
  rw [hQ]
  exact W.iret (v := (fX4_shownBy kd pl x t)) hx hb hr (fun t ht hW => ⟨_, rfl, hR3.symm, ht⟩) (fun q h => by cases h) dX4_shown_26

def aX4_worstBy_5 (v3_5 : Int32) : Int32 := (v3_5 + 1)
def sX4_worstBy_5 (kd pl wo : Nat → Int32) (N : Nat) (x se : Int32) (k5 : Nat) (v3_5 : Int32) : (Int32) ⊕ Int32 := (if (fX4_group kd pl N x (nI k5) se) = se then (.inr (-9)) else (if (wo (fX4_group kd pl N x (nI k5) se).toNatClampNeg) ≤ v3_5 then (.inl v3_5) else (.inl (wo (fX4_group kd pl N x (nI k5) se).toNatClampNeg))))
def fX4_worstBy (kd pl wo : Nat → Int32) (N : Nat) (x se : Int32) : Int32 := (lqr (lq (fun k a => sX4_worstBy_5 kd pl wo N x se k a) 0 11) (fun a => aX4_worstBy_5  a))
theorem q_X4_worstBy : yX4_worstBy.cls = RX4 ∧ yX4_worstBy.cls ≠ "java/lang/invoke/MethodHandle" ∧ yX4_worstBy.cls ≠ "java/lang/invoke/VarHandle" ∧ (parseMethodDescriptor yX4_worstBy.desc).map (fun d => d.parameters.length) = some 2 := by decide +kernel
set_option maxHeartbeats 4000000 in
set_option maxRecDepth 100000 in
theorem c_X4_worstBy (l : Launch) (D : va_G) (cI cS : ClassId) (h m1 m2 m3 m4 m5 m6 m7 m8 m9 m10 m11 m12 m13 : Nat) (lf tr an pn gr ax ra rp rg rd : Int32) (so sl ces kd pl wt xk xp xw wo su ask shw : Nat → Int32) (N : Nat) (x se : Int32) (ha : an = nI N) (hN : N ≤ 6) (hix : vp_in x 6) : PMi l yX4_worstBy wsX4_worstBy { frames := 2, cells := 0, slots := 0, locals := 48 } D cI cS (wMo cI h m1 m2 m3 m4 m5 m6 m7 m8 m9 m10 m11 m12 m13 lf tr an pn gr ax ra rp rg rd so sl ces kd pl wt xk xp xw wo su ask shw) [.ref h, .int x, .int se] (fX4_worstBy kd pl wo N x se) := by
  refine kEnter (cc := cX4_worstBy) (maxL := 6) (ret := (some .int)) (by decide) rfl (Nat.le_of_ble_eq_true rfl) ?_
  intro p e s m below meth c ls Qf hQ hx hb hml hr hlocks hown hts hK hP hl
  have hown : s.vm.findClass RX4 = some m.cls := hown
  have hl : lv_has ls 6 [(0, .ref h), (1, .int x), (2, .int se)] := hl
  refine lv_iconst (v := 0) hx hb dX4_worstBy_0 (by decide) ?_
  refine lv_istore_n (lv' := [(3, .int 0), (0, .ref h), (1, .int x), (2, .int se)]) hx hb dX4_worstBy_1 rfl hl (by decide) rfl (fun ls hl => ?_)
  refine lv_iconst (v := 0) hx hb dX4_worstBy_2 (by decide) ?_
  refine lv_istore (lv' := [(4, .int 0), (3, .int 0), (0, .ref h), (1, .int x), (2, .int se)]) hx hb dX4_worstBy_3 hl (by decide) rfl (fun ls hl => ?_)
  have hR1 : (fX4_worstBy kd pl wo N x se) = (lqr (lq (fun k a => sX4_worstBy_5 kd pl wo N x se k a) 0 11) (fun a => aX4_worstBy_5  a)) := rfl
  have loop5 : ∀ (n k5 : Nat), k5 ≤ 11 → 11 + 1 ≤ k5 + n → ∀ (v3_5 : Int32), lq (fun k a => sX4_worstBy_5 kd pl wo N x se k a) 0 k5 = Sum.inl v3_5 →  ∀ (ls : Array Slot), lv_has ls 6 [(0, .ref h), (1, .int x), (2, .int se), (3, .int v3_5), (4, .int (nI k5))] → W p l e { frames := 2, cells := 0, slots := 0, locals := 48 } s m ([.ref h, .int x, .int se] : List Value).toArray below meth c s.heap [] 0 0 Qf (F0 m 5 ls []) := by
    intro n
    induction n with
    | zero => intro k5 h1 h2; exact absurd h2 (by omega)
    | succ n ih =>
      intro k5 hk5 hn5 v3_5 hacc5  ls hl
      have ih5 := ih
      refine lv_iload hx hb dX4_worstBy_5 (lv_at hl 4 rfl) ?_
      refine lv_bipush (v := 10) hx hb dX4_worstBy_7 (by decide) ?_
      refine lv_icmp_gt (tgt := 60) hx hb dX4_worstBy_9 (by decide) (fun c9 => ?_) (fun c9 => ?_)
      · skip
        have hkN : k5 = 11 := (kEndG (N := 10) hk5 rfl rfl (by omega) c9)
        rw [hkN] at hacc5
        have hR2 : (fX4_worstBy kd pl wo N x se) = aX4_worstBy_5  v3_5 := hR1.trans (lq_end (x := v3_5) (g := (fun a => aX4_worstBy_5  a)) hacc5)
        refine lv_iload_n hx hb dX4_worstBy_60 rfl (lv_at hl 3 rfl) ?_
        refine lv_iconst (v := 1) hx hb dX4_worstBy_61 (by decide) ?_
        refine lv_iadd hx hb dX4_worstBy_62 ?_
        have hR3 : (fX4_worstBy kd pl wo N x se) = (v3_5 + 1) := hR2.trans rfl
        rw [hQ]
        exact W.iret (v := (v3_5 + 1)) hx hb hr (fun t ht hW => ⟨_, rfl, hR3.symm, ht⟩) (fun q h => by cases h) dX4_worstBy_63
      have hlt5 : k5 < 11 := (kLtG (N := 10) hk5 rfl rfl (by omega) c9)
      refine lv_aload_n hx hb dX4_worstBy_12 rfl (lv_at hl 0 rfl) ?_
      refine lv_iload_n hx hb dX4_worstBy_13 rfl (lv_at hl 1 rfl) ?_
      refine lv_iload hx hb dX4_worstBy_14 (lv_at hl 4 rfl) ?_
      refine lv_iload_n hx hb dX4_worstBy_16 rfl (lv_at hl 2 rfl) ?_
      refine kPi (va_runV (As := [.int x, .int (nI k5), .int se]) (rest := []) ⟨hx, hb, hml, hown, hts⟩ (c_X4_group l D cI cS h m1 m2 m3 m4 m5 m6 m7 m8 m9 m10 m11 m12 m13 lf tr an pn gr ax ra rp rg rd so sl ces kd pl wt xk xp xw wo su ask shw N x (nI k5) se ha hN hix) (cwV 3 hts gX4_worstBy_X4_group rfl rfl rfl q_X4_group ⟨Nat.le_of_ble_eq_true rfl, Nat.le_of_ble_eq_true rfl⟩) (kPV hK hP [0, 1, 2, 3, 4, 5, 6, 7, 8, 9, 10, 11, 12, 13] rfl (va_recv hK.1 hP (ci := 4) (q0 := 0) rfl rfl) [.int x, .int (nI k5), .int se]) rfl rfl hl.1 rfl (lv_room (Nat.le_of_ble_eq_true rfl)) dX4_worstBy_17 ⟨Nat.zero_le _, Nat.zero_le _⟩) ?_
      refine lv_istore (lv' := [(5, .int (fX4_group kd pl N x (nI k5) se)), (0, .ref h), (1, .int x), (2, .int se), (3, .int v3_5), (4, .int (nI k5))]) hx hb dX4_worstBy_20 hl (by decide) rfl (fun ls hl => ?_)
      refine lv_iload hx hb dX4_worstBy_22 (lv_at hl 0 rfl) ?_
      refine lv_iload_n hx hb dX4_worstBy_24 rfl (lv_at hl 3 rfl) ?_
      refine lv_icmp_ne (tgt := 31) hx hb dX4_worstBy_25 (by decide) (fun c25 => ?_) (fun c25 => ?_)
      · skip
        refine lv_aload_n hx hb dX4_worstBy_31 rfl (lv_at hl 1 rfl) ?_
        refine va_get (D := D) (ci := 4) (v := .ref m10) (C := RX4) (T := TX4) (N := 23) hx hb hts (fun _ h => List.mem_cons_of_mem _ (List.mem_append_right _ h)) hown hK.1 hP 0 rfl rfl 18 (by decide) (hts (.fieldLink RX4 37 "LieNightsModel" "worstOf" "[I") (List.mem_of_getElem? (i := 1) rfl)) (fun _ h9 => h9) rfl dX4_worstBy_32 ?_
        refine lv_iload hx hb dX4_worstBy_35 (lv_at hl 0 rfl) ?_
        refine va_iald hx hb hK.1 hP 10 0 rfl rfl (mGr hN) dX4_worstBy_37 ?_
        refine lv_iload_n hx hb dX4_worstBy_38 rfl (lv_at hl 4 rfl) ?_
        refine lv_icmp_le (tgt := 52) hx hb dX4_worstBy_39 (by decide) (fun c39 => ?_) (fun c39 => ?_)
        · skip
          refine lv_iload_n hx hb dX4_worstBy_52 rfl (lv_at hl 4 rfl) ?_
          refine lv_istore_n (lv' := [(3, .int v3_5), (5, .int (fX4_group kd pl N x (nI k5) se)), (0, .ref h), (1, .int x), (2, .int se), (4, .int (nI k5))]) hx hb dX4_worstBy_53 rfl hl (by decide) rfl (fun ls hl => ?_)
          refine lv_iinc (v := (nI (k5 + 1))) (lv' := [(4, .int (nI (k5 + 1))), (3, .int v3_5), (5, .int (fX4_group kd pl N x (nI k5) se)), (0, .ref h), (1, .int x), (2, .int se)]) hx hb dX4_worstBy_54 hl (k := 5) rfl (nI_1 (k5)) (by decide) rfl (fun ls hl => ?_)
          refine lv_goto (tgt := 5) hx hb dX4_worstBy_57 (by decide) ?_
          have hR4 : sX4_worstBy_5 kd pl wo N x se k5 v3_5 = (.inl v3_5) := (by unfold sX4_worstBy_5; rw [if_neg c25, if_pos c39])
          exact ih5 (k5 + 1) hlt5 (by omega) _ (lq_next hacc5 hR4)  ls (lv_sub hl [3, 4, 5, 1, 0] rfl)
        refine lv_aload_n hx hb dX4_worstBy_42 rfl (lv_at hl 1 rfl) ?_
        refine va_get (D := D) (ci := 4) (v := .ref m10) (C := RX4) (T := TX4) (N := 23) hx hb hts (fun _ h => List.mem_cons_of_mem _ (List.mem_append_right _ h)) hown hK.1 hP 0 rfl rfl 18 (by decide) (hts (.fieldLink RX4 37 "LieNightsModel" "worstOf" "[I") (List.mem_of_getElem? (i := 1) rfl)) (fun _ h9 => h9) rfl dX4_worstBy_43 ?_
        refine lv_iload hx hb dX4_worstBy_46 (lv_at hl 0 rfl) ?_
        refine va_iald hx hb hK.1 hP 10 0 rfl rfl (mGr hN) dX4_worstBy_48 ?_
        refine lv_goto (tgt := 53) hx hb dX4_worstBy_49 (by decide) ?_
        refine lv_istore_n (lv' := [(3, .int (wo (fX4_group kd pl N x (nI k5) se).toNatClampNeg)), (5, .int (fX4_group kd pl N x (nI k5) se)), (0, .ref h), (1, .int x), (2, .int se), (4, .int (nI k5))]) hx hb dX4_worstBy_53 rfl hl (by decide) rfl (fun ls hl => ?_)
        refine lv_iinc (v := (nI (k5 + 1))) (lv' := [(4, .int (nI (k5 + 1))), (3, .int (wo (fX4_group kd pl N x (nI k5) se).toNatClampNeg)), (5, .int (fX4_group kd pl N x (nI k5) se)), (0, .ref h), (1, .int x), (2, .int se)]) hx hb dX4_worstBy_54 hl (k := 5) rfl (nI_1 (k5)) (by decide) rfl (fun ls hl => ?_)
        refine lv_goto (tgt := 5) hx hb dX4_worstBy_57 (by decide) ?_
        have hR5 : sX4_worstBy_5 kd pl wo N x se k5 v3_5 = (.inl (wo (fX4_group kd pl N x (nI k5) se).toNatClampNeg)) := (by unfold sX4_worstBy_5; rw [if_neg c25, if_neg c39])
        exact ih5 (k5 + 1) hlt5 (by omega) _ (lq_next hacc5 hR5)  ls (lv_sub hl [3, 4, 5, 1, 0] rfl)
      refine lv_bipush (v := (-9)) hx hb dX4_worstBy_28 (by decide) ?_
      have hR6 : sX4_worstBy_5 kd pl wo N x se k5 v3_5 = (.inr (-9)) := (by unfold sX4_worstBy_5; rw [if_pos c25])
      have hR7 : (fX4_worstBy kd pl wo N x se) = (-9) := hR1.trans (lq_exit hacc5 hR6 hlt5)
      rw [hQ]
      exact W.iret (v := (-9)) hx hb hr (fun t ht hW => ⟨_, rfl, hR7.symm, ht⟩) (fun q h => by cases h) dX4_worstBy_30
  exact loop5 (11 + 1) 0 (Nat.zero_le _) (by omega) _ rfl  ls (lv_sub hl [2, 3, 4, 1, 0] rfl)

def aX4_sumBy_8 (v3_8 : Int32) : Int32 := v3_8
def sX4_sumBy_8 (kd pl su : Nat → Int32) (N : Nat) (x se : Int32) (k8 : Nat) (v3_8 : Int32) : (Int32) ⊕ Int32 := (if (fX4_group kd pl N x (nI k8) se) = se then (.inr (-9)) else (.inl (v3_8 + (su (fX4_group kd pl N x (nI k8) se).toNatClampNeg))))
def fX4_sumBy (kd pl su : Nat → Int32) (N Se : Nat) (x se : Int32) : Int32 := (lqr (lq (fun k a => sX4_sumBy_8 kd pl su N x se k a) (fX4_size Se) 11) (fun a => aX4_sumBy_8  a))
theorem q_X4_sumBy : yX4_sumBy.cls = RX4 ∧ yX4_sumBy.cls ≠ "java/lang/invoke/MethodHandle" ∧ yX4_sumBy.cls ≠ "java/lang/invoke/VarHandle" ∧ (parseMethodDescriptor yX4_sumBy.desc).map (fun d => d.parameters.length) = some 2 := by decide +kernel
set_option maxHeartbeats 4000000 in
set_option maxRecDepth 100000 in
theorem c_X4_sumBy (l : Launch) (D : va_G) (cI cS : ClassId) (h m1 m2 m3 m4 m5 m6 m7 m8 m9 m10 m11 m12 m13 : Nat) (lf tr an pn gr ax ra rp rg rd : Int32) (so sl ces kd pl wt xk xp xw wo su ask shw : Nat → Int32) (N Se : Nat) (x se : Int32) (ha : an = nI N) (hN : N ≤ 6) (hix : vp_in x 6) (hse : se = nI Se) (hSe : Se < 64) : PMi l yX4_sumBy wsX4_sumBy { frames := 2, cells := 0, slots := 0, locals := 48 } D cI cS (wMo cI h m1 m2 m3 m4 m5 m6 m7 m8 m9 m10 m11 m12 m13 lf tr an pn gr ax ra rp rg rd so sl ces kd pl wt xk xp xw wo su ask shw) [.ref h, .int x, .int se] (fX4_sumBy kd pl su N Se x se) := by
  refine kEnter (cc := cX4_sumBy) (maxL := 6) (ret := (some .int)) (by decide) rfl (Nat.le_of_ble_eq_true rfl) ?_
  intro p e s m below meth c ls Qf hQ hx hb hml hr hlocks hown hts hK hP hl
  have hown : s.vm.findClass RX4 = some m.cls := hown
  have hl : lv_has ls 6 [(0, .ref h), (1, .int x), (2, .int se)] := hl
  refine lv_iload_n hx hb dX4_sumBy_0 rfl (lv_at hl 2 rfl) ?_
  refine kPi (va_runS (As := [.int se]) (rest := []) ⟨hx, hb, hml, hown, hts⟩ (c_X4_size l D cI cS Se se hse hSe) (va_cwS 1 hts gX4_sumBy_X4_size rfl rfl rfl q_X4_size.2 ⟨Nat.le_of_ble_eq_true rfl, Nat.le_of_ble_eq_true rfl⟩) (kPS hK hP [] rfl [.int se]) rfl rfl hl.1 rfl (lv_room (Nat.le_of_ble_eq_true rfl)) dX4_sumBy_1 ⟨Nat.zero_le _, Nat.zero_le _⟩) ?_
  refine lv_istore_n (lv' := [(3, .int (fX4_size Se)), (0, .ref h), (1, .int x), (2, .int se)]) hx hb dX4_sumBy_4 rfl hl (by decide) rfl (fun ls hl => ?_)
  refine lv_iconst (v := 0) hx hb dX4_sumBy_5 (by decide) ?_
  refine lv_istore (lv' := [(4, .int 0), (3, .int (fX4_size Se)), (0, .ref h), (1, .int x), (2, .int se)]) hx hb dX4_sumBy_6 hl (by decide) rfl (fun ls hl => ?_)
  have hR1 : (fX4_sumBy kd pl su N Se x se) = (lqr (lq (fun k a => sX4_sumBy_8 kd pl su N x se k a) (fX4_size Se) 11) (fun a => aX4_sumBy_8  a)) := rfl
  have loop8 : ∀ (n k8 : Nat), k8 ≤ 11 → 11 + 1 ≤ k8 + n → ∀ (v3_8 : Int32), lq (fun k a => sX4_sumBy_8 kd pl su N x se k a) (fX4_size Se) k8 = Sum.inl v3_8 →  ∀ (ls : Array Slot), lv_has ls 6 [(0, .ref h), (1, .int x), (2, .int se), (3, .int v3_8), (4, .int (nI k8))] → W p l e { frames := 2, cells := 0, slots := 0, locals := 48 } s m ([.ref h, .int x, .int se] : List Value).toArray below meth c s.heap [] 0 0 Qf (F0 m 8 ls []) := by
    intro n
    induction n with
    | zero => intro k8 h1 h2; exact absurd h2 (by omega)
    | succ n ih =>
      intro k8 hk8 hn8 v3_8 hacc8  ls hl
      have ih8 := ih
      refine lv_iload hx hb dX4_sumBy_8 (lv_at hl 4 rfl) ?_
      refine lv_bipush (v := 10) hx hb dX4_sumBy_10 (by decide) ?_
      refine lv_icmp_gt (tgt := 50) hx hb dX4_sumBy_12 (by decide) (fun c12 => ?_) (fun c12 => ?_)
      · skip
        have hkN : k8 = 11 := (kEndG (N := 10) hk8 rfl rfl (by omega) c12)
        rw [hkN] at hacc8
        have hR2 : (fX4_sumBy kd pl su N Se x se) = aX4_sumBy_8  v3_8 := hR1.trans (lq_end (x := v3_8) (g := (fun a => aX4_sumBy_8  a)) hacc8)
        refine lv_iload_n hx hb dX4_sumBy_50 rfl (lv_at hl 3 rfl) ?_
        have hR3 : (fX4_sumBy kd pl su N Se x se) = v3_8 := hR2.trans rfl
        rw [hQ]
        exact W.iret (v := v3_8) hx hb hr (fun t ht hW => ⟨_, rfl, hR3.symm, ht⟩) (fun q h => by cases h) dX4_sumBy_51
      have hlt8 : k8 < 11 := (kLtG (N := 10) hk8 rfl rfl (by omega) c12)
      refine lv_aload_n hx hb dX4_sumBy_15 rfl (lv_at hl 0 rfl) ?_
      refine lv_iload_n hx hb dX4_sumBy_16 rfl (lv_at hl 1 rfl) ?_
      refine lv_iload hx hb dX4_sumBy_17 (lv_at hl 4 rfl) ?_
      refine lv_iload_n hx hb dX4_sumBy_19 rfl (lv_at hl 2 rfl) ?_
      refine kPi (va_runV (As := [.int x, .int (nI k8), .int se]) (rest := []) ⟨hx, hb, hml, hown, hts⟩ (c_X4_group l D cI cS h m1 m2 m3 m4 m5 m6 m7 m8 m9 m10 m11 m12 m13 lf tr an pn gr ax ra rp rg rd so sl ces kd pl wt xk xp xw wo su ask shw N x (nI k8) se ha hN hix) (cwV 3 hts gX4_sumBy_X4_group rfl rfl rfl q_X4_group ⟨Nat.le_of_ble_eq_true rfl, Nat.le_of_ble_eq_true rfl⟩) (kPV hK hP [0, 1, 2, 3, 4, 5, 6, 7, 8, 9, 10, 11, 12, 13] rfl (va_recv hK.1 hP (ci := 4) (q0 := 0) rfl rfl) [.int x, .int (nI k8), .int se]) rfl rfl hl.1 rfl (lv_room (Nat.le_of_ble_eq_true rfl)) dX4_sumBy_20 ⟨Nat.zero_le _, Nat.zero_le _⟩) ?_
      refine lv_istore (lv' := [(5, .int (fX4_group kd pl N x (nI k8) se)), (0, .ref h), (1, .int x), (2, .int se), (3, .int v3_8), (4, .int (nI k8))]) hx hb dX4_sumBy_23 hl (by decide) rfl (fun ls hl => ?_)
      refine lv_iload hx hb dX4_sumBy_25 (lv_at hl 0 rfl) ?_
      refine lv_iload_n hx hb dX4_sumBy_27 rfl (lv_at hl 3 rfl) ?_
      refine lv_icmp_ne (tgt := 34) hx hb dX4_sumBy_28 (by decide) (fun c28 => ?_) (fun c28 => ?_)
      · skip
        refine lv_iload_n hx hb dX4_sumBy_34 rfl (lv_at hl 4 rfl) ?_
        refine lv_aload_n hx hb dX4_sumBy_35 rfl (lv_at hl 1 rfl) ?_
        refine va_get (D := D) (ci := 4) (v := .ref m11) (C := RX4) (T := TX4) (N := 23) hx hb hts (fun _ h => List.mem_cons_of_mem _ (List.mem_append_right _ h)) hown hK.1 hP 0 rfl rfl 19 (by decide) (hts (.fieldLink RX4 40 "LieNightsModel" "sumOf" "[I") (List.mem_of_getElem? (i := 1) rfl)) (fun _ h9 => h9) rfl dX4_sumBy_36 ?_
        refine lv_iload hx hb dX4_sumBy_39 (lv_at hl 0 rfl) ?_
        refine va_iald hx hb hK.1 hP 11 0 rfl rfl (mGr hN) dX4_sumBy_41 ?_
        refine lv_iadd hx hb dX4_sumBy_42 ?_
        refine lv_istore_n (lv' := [(3, .int (v3_8 + (su (fX4_group kd pl N x (nI k8) se).toNatClampNeg))), (5, .int (fX4_group kd pl N x (nI k8) se)), (0, .ref h), (1, .int x), (2, .int se), (4, .int (nI k8))]) hx hb dX4_sumBy_43 rfl hl (by decide) rfl (fun ls hl => ?_)
        refine lv_iinc (v := (nI (k8 + 1))) (lv' := [(4, .int (nI (k8 + 1))), (3, .int (v3_8 + (su (fX4_group kd pl N x (nI k8) se).toNatClampNeg))), (5, .int (fX4_group kd pl N x (nI k8) se)), (0, .ref h), (1, .int x), (2, .int se)]) hx hb dX4_sumBy_44 hl (k := 5) rfl (nI_1 (k8)) (by decide) rfl (fun ls hl => ?_)
        refine lv_goto (tgt := 8) hx hb dX4_sumBy_47 (by decide) ?_
        have hR4 : sX4_sumBy_8 kd pl su N x se k8 v3_8 = (.inl (v3_8 + (su (fX4_group kd pl N x (nI k8) se).toNatClampNeg))) := (by unfold sX4_sumBy_8; rw [if_neg c28])
        exact ih8 (k8 + 1) hlt8 (by omega) _ (lq_next hacc8 hR4)  ls (lv_sub hl [3, 4, 5, 1, 0] rfl)
      refine lv_bipush (v := (-9)) hx hb dX4_sumBy_31 (by decide) ?_
      have hR5 : sX4_sumBy_8 kd pl su N x se k8 v3_8 = (.inr (-9)) := (by unfold sX4_sumBy_8; rw [if_pos c28])
      have hR6 : (fX4_sumBy kd pl su N Se x se) = (-9) := hR1.trans (lq_exit hacc8 hR5 hlt8)
      rw [hQ]
      exact W.iret (v := (-9)) hx hb hr (fun t ht hW => ⟨_, rfl, hR6.symm, ht⟩) (fun q h => by cases h) dX4_sumBy_33
  exact loop8 (11 + 1) 0 (Nat.zero_le _) (by omega) _ rfl  ls (lv_sub hl [2, 3, 4, 1, 0] rfl)

def aX4_findWorst_16 (wwo_16 wsu_16 : Nat → Int32) : (Nat → Int32) × (Nat → Int32) := (wwo_16, wsu_16)
def aX4_findWorst_39 (wwo_39 wsu_39 : Nat → Int32) : ((Nat → Int32) × (Nat → Int32)) := (wwo_39, wsu_39)
def sX4_findWorst_39 (kd pl : Nat → Int32) (N k16 k39 : Nat) (wwo_39 wsu_39 : Nat → Int32) : ((Nat → Int32) × (Nat → Int32)) := (if (fX4_worstBy kd pl wwo_39 N (nI k39) (nI (k16 + 1))) = (-9) then (if (fX4_sumBy kd pl wsu_39 N (k16 + 1) (nI k39) (nI (k16 + 1))) = (-9) then ((upd wwo_39 ((nI (k16 + 1)).toNatClampNeg) (wwo_39 (nI (k16 + 1)).toNatClampNeg)), (upd wsu_39 ((nI (k16 + 1)).toNatClampNeg) (wsu_39 (nI (k16 + 1)).toNatClampNeg))) else (if (wsu_39 (nI (k16 + 1)).toNatClampNeg) = (-9) then ((upd wwo_39 ((nI (k16 + 1)).toNatClampNeg) (wwo_39 (nI (k16 + 1)).toNatClampNeg)), (upd wsu_39 ((nI (k16 + 1)).toNatClampNeg) (fX4_sumBy kd pl wsu_39 N (k16 + 1) (nI k39) (nI (k16 + 1))))) else (if ((wsu_39 (nI (k16 + 1)).toNatClampNeg) : Int32) ≤ (fX4_sumBy kd pl wsu_39 N (k16 + 1) (nI k39) (nI (k16 + 1))) then ((upd wwo_39 ((nI (k16 + 1)).toNatClampNeg) (wwo_39 (nI (k16 + 1)).toNatClampNeg)), (upd wsu_39 ((nI (k16 + 1)).toNatClampNeg) (wsu_39 (nI (k16 + 1)).toNatClampNeg))) else ((upd wwo_39 ((nI (k16 + 1)).toNatClampNeg) (wwo_39 (nI (k16 + 1)).toNatClampNeg)), (upd wsu_39 ((nI (k16 + 1)).toNatClampNeg) (fX4_sumBy kd pl wsu_39 N (k16 + 1) (nI k39) (nI (k16 + 1)))))))) else (if (wwo_39 (nI (k16 + 1)).toNatClampNeg) = (-9) then (if (fX4_sumBy kd pl wsu_39 N (k16 + 1) (nI k39) (nI (k16 + 1))) = (-9) then ((upd wwo_39 ((nI (k16 + 1)).toNatClampNeg) (fX4_worstBy kd pl wwo_39 N (nI k39) (nI (k16 + 1)))), (upd wsu_39 ((nI (k16 + 1)).toNatClampNeg) (wsu_39 (nI (k16 + 1)).toNatClampNeg))) else (if (wsu_39 (nI (k16 + 1)).toNatClampNeg) = (-9) then ((upd wwo_39 ((nI (k16 + 1)).toNatClampNeg) (fX4_worstBy kd pl wwo_39 N (nI k39) (nI (k16 + 1)))), (upd wsu_39 ((nI (k16 + 1)).toNatClampNeg) (fX4_sumBy kd pl wsu_39 N (k16 + 1) (nI k39) (nI (k16 + 1))))) else (if ((wsu_39 (nI (k16 + 1)).toNatClampNeg) : Int32) ≤ (fX4_sumBy kd pl wsu_39 N (k16 + 1) (nI k39) (nI (k16 + 1))) then ((upd wwo_39 ((nI (k16 + 1)).toNatClampNeg) (fX4_worstBy kd pl wwo_39 N (nI k39) (nI (k16 + 1)))), (upd wsu_39 ((nI (k16 + 1)).toNatClampNeg) (wsu_39 (nI (k16 + 1)).toNatClampNeg))) else ((upd wwo_39 ((nI (k16 + 1)).toNatClampNeg) (fX4_worstBy kd pl wwo_39 N (nI k39) (nI (k16 + 1)))), (upd wsu_39 ((nI (k16 + 1)).toNatClampNeg) (fX4_sumBy kd pl wsu_39 N (k16 + 1) (nI k39) (nI (k16 + 1)))))))) else (if ((wwo_39 (nI (k16 + 1)).toNatClampNeg) : Int32) ≤ (fX4_worstBy kd pl wwo_39 N (nI k39) (nI (k16 + 1))) then (if (fX4_sumBy kd pl wsu_39 N (k16 + 1) (nI k39) (nI (k16 + 1))) = (-9) then ((upd wwo_39 ((nI (k16 + 1)).toNatClampNeg) (wwo_39 (nI (k16 + 1)).toNatClampNeg)), (upd wsu_39 ((nI (k16 + 1)).toNatClampNeg) (wsu_39 (nI (k16 + 1)).toNatClampNeg))) else (if (wsu_39 (nI (k16 + 1)).toNatClampNeg) = (-9) then ((upd wwo_39 ((nI (k16 + 1)).toNatClampNeg) (wwo_39 (nI (k16 + 1)).toNatClampNeg)), (upd wsu_39 ((nI (k16 + 1)).toNatClampNeg) (fX4_sumBy kd pl wsu_39 N (k16 + 1) (nI k39) (nI (k16 + 1))))) else (if ((wsu_39 (nI (k16 + 1)).toNatClampNeg) : Int32) ≤ (fX4_sumBy kd pl wsu_39 N (k16 + 1) (nI k39) (nI (k16 + 1))) then ((upd wwo_39 ((nI (k16 + 1)).toNatClampNeg) (wwo_39 (nI (k16 + 1)).toNatClampNeg)), (upd wsu_39 ((nI (k16 + 1)).toNatClampNeg) (wsu_39 (nI (k16 + 1)).toNatClampNeg))) else ((upd wwo_39 ((nI (k16 + 1)).toNatClampNeg) (wwo_39 (nI (k16 + 1)).toNatClampNeg)), (upd wsu_39 ((nI (k16 + 1)).toNatClampNeg) (fX4_sumBy kd pl wsu_39 N (k16 + 1) (nI k39) (nI (k16 + 1)))))))) else (if (fX4_sumBy kd pl wsu_39 N (k16 + 1) (nI k39) (nI (k16 + 1))) = (-9) then ((upd wwo_39 ((nI (k16 + 1)).toNatClampNeg) (fX4_worstBy kd pl wwo_39 N (nI k39) (nI (k16 + 1)))), (upd wsu_39 ((nI (k16 + 1)).toNatClampNeg) (wsu_39 (nI (k16 + 1)).toNatClampNeg))) else (if (wsu_39 (nI (k16 + 1)).toNatClampNeg) = (-9) then ((upd wwo_39 ((nI (k16 + 1)).toNatClampNeg) (fX4_worstBy kd pl wwo_39 N (nI k39) (nI (k16 + 1)))), (upd wsu_39 ((nI (k16 + 1)).toNatClampNeg) (fX4_sumBy kd pl wsu_39 N (k16 + 1) (nI k39) (nI (k16 + 1))))) else (if ((wsu_39 (nI (k16 + 1)).toNatClampNeg) : Int32) ≤ (fX4_sumBy kd pl wsu_39 N (k16 + 1) (nI k39) (nI (k16 + 1))) then ((upd wwo_39 ((nI (k16 + 1)).toNatClampNeg) (fX4_worstBy kd pl wwo_39 N (nI k39) (nI (k16 + 1)))), (upd wsu_39 ((nI (k16 + 1)).toNatClampNeg) (wsu_39 (nI (k16 + 1)).toNatClampNeg))) else ((upd wwo_39 ((nI (k16 + 1)).toNatClampNeg) (fX4_worstBy kd pl wwo_39 N (nI k39) (nI (k16 + 1)))), (upd wsu_39 ((nI (k16 + 1)).toNatClampNeg) (fX4_sumBy kd pl wsu_39 N (k16 + 1) (nI k39) (nI (k16 + 1)))))))))))
def sX4_findWorst_16 (kd pl : Nat → Int32) (N k16 : Nat) (wwo_16 wsu_16 : Nat → Int32) : ((Nat → Int32) × (Nat → Int32)) := (aX4_findWorst_39  ((lp (fun k a => sX4_findWorst_39 kd pl N k16 k a.1 a.2) ((upd wwo_16 ((nI (k16 + 1)).toNatClampNeg) (-9)), (upd wsu_16 ((nI (k16 + 1)).toNatClampNeg) (-9))) N).1) ((lp (fun k a => sX4_findWorst_39 kd pl N k16 k a.1 a.2) ((upd wwo_16 ((nI (k16 + 1)).toNatClampNeg) (-9)), (upd wsu_16 ((nI (k16 + 1)).toNatClampNeg) (-9))) N).2))
def fX4_findWorst (kd pl wo su : Nat → Int32) (N Mo : Nat) : (Nat → Int32) × (Nat → Int32) := (aX4_findWorst_16  ((lp (fun k a => sX4_findWorst_16 kd pl N k a.1 a.2) ((upd wo (Int32.toNatClampNeg 0) 0), (upd su (Int32.toNatClampNeg 0) 0)) Mo).1) ((lp (fun k a => sX4_findWorst_16 kd pl N k a.1 a.2) ((upd wo (Int32.toNatClampNeg 0) 0), (upd su (Int32.toNatClampNeg 0) 0)) Mo).2))
theorem q_X4_findWorst : yX4_findWorst.cls = RX4 ∧ yX4_findWorst.cls ≠ "java/lang/invoke/MethodHandle" ∧ yX4_findWorst.cls ≠ "java/lang/invoke/VarHandle" ∧ (parseMethodDescriptor yX4_findWorst.desc).map (fun d => d.parameters.length) = some 1 := by decide +kernel
set_option maxHeartbeats 4000000 in
set_option maxRecDepth 100000 in
theorem c_X4_findWorst (l : Launch) (D : va_G) (cI cS : ClassId) (h m1 m2 m3 m4 m5 m6 m7 m8 m9 m10 m11 m12 m13 : Nat) (lf tr an pn gr ax ra rp rg rd : Int32) (so sl ces kd pl wt xk xp xw wo su ask shw : Nat → Int32) (N Mo : Nat) (mo : Int32) (ha : an = nI N) (hN : N ≤ 6) (hmo : mo = nI Mo) (hMo : Mo < 64) : MMv l yX4_findWorst wsX4_findWorst { frames := 3, cells := 0, slots := 0, locals := 73 } D cI cS (wMo cI h m1 m2 m3 m4 m5 m6 m7 m8 m9 m10 m11 m12 m13 lf tr an pn gr ax ra rp rg rd so sl ces kd pl wt xk xp xw wo su ask shw) [.ref h, .int mo] (wMo cI h m1 m2 m3 m4 m5 m6 m7 m8 m9 m10 m11 m12 m13 lf tr an pn gr ax ra rp rg rd so sl ces kd pl wt xk xp xw ((fX4_findWorst kd pl wo su N Mo).1) ((fX4_findWorst kd pl wo su N Mo).2) ask shw) := by
  refine kEnterM (cc := cX4_findWorst) (maxL := 6) (ret := none) (by decide) rfl (Nat.le_of_ble_eq_true rfl) ?_
  intro p e s m below meth c ls Qf hQ hx hb hml hr hlocks hown hts hK hP hD hS hl
  have hown : s.vm.findClass RX4 = some m.cls := hown
  have hl : lv_has ls 6 [(0, .ref h), (1, .int mo)] := hl
  generalize kA (wMo cI h m1 m2 m3 m4 m5 m6 m7 m8 m9 m10 m11 m12 m13 lf tr an pn gr ax ra rp rg rd so sl ces kd pl wt xk xp xw wo su ask shw) = A at hQ hD hS
  refine lv_aload_n hx hb dX4_findWorst_0 rfl (lv_at hl 0 rfl) ?_
  refine va_get (D := D) (ci := 4) (v := .ref m10) (C := RX4) (T := TX4) (N := 23) hx hb hts (fun _ h => List.mem_cons_of_mem _ (List.mem_append_right _ h)) hown hK.1 hP 0 rfl rfl 18 (by decide) (hts (.fieldLink RX4 37 "LieNightsModel" "worstOf" "[I") (List.mem_of_getElem? (i := 1) rfl)) (fun _ h9 => h9) rfl dX4_findWorst_1 ?_
  refine lv_iconst (v := 0) hx hb dX4_findWorst_4 (by decide) ?_
  refine lv_iconst (v := 0) hx hb dX4_findWorst_5 (by decide) ?_
  refine va_iast hx hb hK.1 hP hD hS 10 0 rfl rfl (mV0 (by decide) (by decide)) dX4_findWorst_6 (fun H locs hP hD hS => ?_)
  have hP : va_P D vwCl (wMo cI h m1 m2 m3 m4 m5 m6 m7 m8 m9 m10 m11 m12 m13 lf tr an pn gr ax ra rp rg rd so sl ces kd pl wt xk xp xw (upd wo (Int32.toNatClampNeg 0) 0) su ask shw) H := hP
  have hD : va_D A (wMo cI h m1 m2 m3 m4 m5 m6 m7 m8 m9 m10 m11 m12 m13 lf tr an pn gr ax ra rp rg rd so sl ces kd pl wt xk xp xw (upd wo (Int32.toNatClampNeg 0) 0) su ask shw) := hD
  refine lv_aload_n hx hb dX4_findWorst_7 rfl (lv_at hl 0 rfl) ?_
  refine va_get (D := D) (ci := 4) (v := .ref m11) (C := RX4) (T := TX4) (N := 23) hx hb hts (fun _ h => List.mem_cons_of_mem _ (List.mem_append_right _ h)) hown hK.1 hP 0 rfl rfl 19 (by decide) (hts (.fieldLink RX4 40 "LieNightsModel" "sumOf" "[I") (List.mem_of_getElem? (i := 2) rfl)) (fun _ h9 => h9) rfl dX4_findWorst_8 ?_
  refine lv_iconst (v := 0) hx hb dX4_findWorst_11 (by decide) ?_
  refine lv_iconst (v := 0) hx hb dX4_findWorst_12 (by decide) ?_
  refine va_iast hx hb hK.1 hP hD hS 11 0 rfl rfl (mV0 (by decide) (by decide)) dX4_findWorst_13 (fun H locs hP hD hS => ?_)
  have hP : va_P D vwCl (wMo cI h m1 m2 m3 m4 m5 m6 m7 m8 m9 m10 m11 m12 m13 lf tr an pn gr ax ra rp rg rd so sl ces kd pl wt xk xp xw (upd wo (Int32.toNatClampNeg 0) 0) (upd su (Int32.toNatClampNeg 0) 0) ask shw) H := hP
  have hD : va_D A (wMo cI h m1 m2 m3 m4 m5 m6 m7 m8 m9 m10 m11 m12 m13 lf tr an pn gr ax ra rp rg rd so sl ces kd pl wt xk xp xw (upd wo (Int32.toNatClampNeg 0) 0) (upd su (Int32.toNatClampNeg 0) 0) ask shw) := hD
  refine lv_iconst (v := 1) hx hb dX4_findWorst_14 (by decide) ?_
  refine lv_istore_n (lv' := [(2, .int 1), (0, .ref h), (1, .int mo)]) hx hb dX4_findWorst_15 rfl hl (by decide) rfl (fun ls hl => ?_)
  have hR1 : (fX4_findWorst kd pl wo su N Mo) = (aX4_findWorst_16  ((lp (fun k a => sX4_findWorst_16 kd pl N k a.1 a.2) ((upd wo (Int32.toNatClampNeg 0) 0), (upd su (Int32.toNatClampNeg 0) 0)) Mo).1) ((lp (fun k a => sX4_findWorst_16 kd pl N k a.1 a.2) ((upd wo (Int32.toNatClampNeg 0) 0), (upd su (Int32.toNatClampNeg 0) 0)) Mo).2)) := rfl
  have loop16 : ∀ (n k16 : Nat), k16 ≤ Mo → Mo + 1 ≤ k16 + n → ∀ (wwo_16 : Nat → Int32) (wsu_16 : Nat → Int32), lp (fun k a => sX4_findWorst_16 kd pl N k a.1 a.2) ((upd wo (Int32.toNatClampNeg 0) 0), (upd su (Int32.toNatClampNeg 0) 0)) k16 = (wwo_16, wsu_16) →  ∀ (H : Heap) (locs : List Loc), va_P D vwCl (wMo cI h m1 m2 m3 m4 m5 m6 m7 m8 m9 m10 m11 m12 m13 lf tr an pn gr ax ra rp rg rd so sl ces kd pl wt xk xp xw wwo_16 wsu_16 ask shw) H → va_D A (wMo cI h m1 m2 m3 m4 m5 m6 m7 m8 m9 m10 m11 m12 m13 lf tr an pn gr ax ra rp rg rd so sl ces kd pl wt xk xp xw wwo_16 wsu_16 ask shw) → va_S A s.heap H locs → ∀ (ls : Array Slot), lv_has ls 6 [(0, .ref h), (1, .int mo), (2, .int (nI (k16 + 1)))] → W p l e { frames := 3, cells := 0, slots := 0, locals := 73 } s m ([.ref h, .int mo] : List Value).toArray below meth c H locs 0 0 Qf (F0 m 16 ls []) := by
    intro n
    induction n with
    | zero => intro k16 h1 h2; exact absurd h2 (by omega)
    | succ n ih =>
      intro k16 hk16 hn16 wwo_16 wsu_16 hacc16  H locs hP hD hS ls hl
      have ih16 := ih
      refine lv_iload_n hx hb dX4_findWorst_16 rfl (lv_at hl 2 rfl) ?_
      refine lv_iload_n hx hb dX4_findWorst_17 rfl (lv_at hl 1 rfl) ?_
      refine lv_icmp_gt (tgt := 167) hx hb dX4_findWorst_18 (by decide) (fun c18 => ?_) (fun c18 => ?_)
      · skip
        have hkN : k16 = Mo := (kEndS hk16 rfl hmo (by omega) c18)
        rw [hkN] at hacc16
        have hR2 : (fX4_findWorst kd pl wo su N Mo) = aX4_findWorst_16  wwo_16 wsu_16 := hR1.trans (lp_end (x := (wwo_16, wsu_16)) (g := (fun a => aX4_findWorst_16  a.1 a.2)) hacc16)
        have hR3 : (fX4_findWorst kd pl wo su N Mo) = (wwo_16, wsu_16) := hR2.trans rfl
        rw [hQ]
        exact W.vret hx hb hr (fun t ht hW => ⟨⟨(), rfl, trivial, (by show va_P D vwCl _ t.heap; rw [hR3, ht]; exact hP)⟩, hS.F ht⟩) hS.2.2 dX4_findWorst_167
      have hlt16 : k16 < Mo := (kLtS hk16 rfl hmo (by omega) c18)
      refine lv_aload_n hx hb dX4_findWorst_21 rfl (lv_at hl 0 rfl) ?_
      refine va_get (D := D) (ci := 4) (v := .ref m10) (C := RX4) (T := TX4) (N := 23) hx hb hts (fun _ h => List.mem_cons_of_mem _ (List.mem_append_right _ h)) hown hK.1 hP 0 rfl rfl 18 (by decide) (hts (.fieldLink RX4 37 "LieNightsModel" "worstOf" "[I") (List.mem_of_getElem? (i := 1) rfl)) (fun _ h9 => h9) rfl dX4_findWorst_22 ?_
      refine lv_iload_n hx hb dX4_findWorst_25 rfl (lv_at hl 2 rfl) ?_
      refine lv_bipush (v := (-9)) hx hb dX4_findWorst_26 (by decide) ?_
      refine va_iast hx hb hK.1 hP hD hS 10 0 rfl rfl (vp_in_nI (by omega) (by decide)) dX4_findWorst_28 (fun H locs hP hD hS => ?_)
      have hP : va_P D vwCl (wMo cI h m1 m2 m3 m4 m5 m6 m7 m8 m9 m10 m11 m12 m13 lf tr an pn gr ax ra rp rg rd so sl ces kd pl wt xk xp xw (upd wwo_16 ((nI (k16 + 1)).toNatClampNeg) (-9)) wsu_16 ask shw) H := hP
      have hD : va_D A (wMo cI h m1 m2 m3 m4 m5 m6 m7 m8 m9 m10 m11 m12 m13 lf tr an pn gr ax ra rp rg rd so sl ces kd pl wt xk xp xw (upd wwo_16 ((nI (k16 + 1)).toNatClampNeg) (-9)) wsu_16 ask shw) := hD
      refine lv_aload_n hx hb dX4_findWorst_29 rfl (lv_at hl 0 rfl) ?_
      refine va_get (D := D) (ci := 4) (v := .ref m11) (C := RX4) (T := TX4) (N := 23) hx hb hts (fun _ h => List.mem_cons_of_mem _ (List.mem_append_right _ h)) hown hK.1 hP 0 rfl rfl 19 (by decide) (hts (.fieldLink RX4 40 "LieNightsModel" "sumOf" "[I") (List.mem_of_getElem? (i := 2) rfl)) (fun _ h9 => h9) rfl dX4_findWorst_30 ?_
      refine lv_iload_n hx hb dX4_findWorst_33 rfl (lv_at hl 2 rfl) ?_
      refine lv_bipush (v := (-9)) hx hb dX4_findWorst_34 (by decide) ?_
      refine va_iast hx hb hK.1 hP hD hS 11 0 rfl rfl (vp_in_nI (by omega) (by decide)) dX4_findWorst_36 (fun H locs hP hD hS => ?_)
      have hP : va_P D vwCl (wMo cI h m1 m2 m3 m4 m5 m6 m7 m8 m9 m10 m11 m12 m13 lf tr an pn gr ax ra rp rg rd so sl ces kd pl wt xk xp xw (upd wwo_16 ((nI (k16 + 1)).toNatClampNeg) (-9)) (upd wsu_16 ((nI (k16 + 1)).toNatClampNeg) (-9)) ask shw) H := hP
      have hD : va_D A (wMo cI h m1 m2 m3 m4 m5 m6 m7 m8 m9 m10 m11 m12 m13 lf tr an pn gr ax ra rp rg rd so sl ces kd pl wt xk xp xw (upd wwo_16 ((nI (k16 + 1)).toNatClampNeg) (-9)) (upd wsu_16 ((nI (k16 + 1)).toNatClampNeg) (-9)) ask shw) := hD
      refine lv_iconst (v := 0) hx hb dX4_findWorst_37 (by decide) ?_
      refine lv_istore_n (lv' := [(3, .int 0), (0, .ref h), (1, .int mo), (2, .int (nI (k16 + 1)))]) hx hb dX4_findWorst_38 rfl hl (by decide) rfl (fun ls hl => ?_)
      have hR4 : sX4_findWorst_16 kd pl N k16 wwo_16 wsu_16 = (aX4_findWorst_39  ((lp (fun k a => sX4_findWorst_39 kd pl N k16 k a.1 a.2) ((upd wwo_16 ((nI (k16 + 1)).toNatClampNeg) (-9)), (upd wsu_16 ((nI (k16 + 1)).toNatClampNeg) (-9))) N).1) ((lp (fun k a => sX4_findWorst_39 kd pl N k16 k a.1 a.2) ((upd wwo_16 ((nI (k16 + 1)).toNatClampNeg) (-9)), (upd wsu_16 ((nI (k16 + 1)).toNatClampNeg) (-9))) N).2)) := rfl
      have loop39 : ∀ (n k39 : Nat), k39 ≤ N → N + 1 ≤ k39 + n → ∀ (wwo_39 : Nat → Int32) (wsu_39 : Nat → Int32), lp (fun k a => sX4_findWorst_39 kd pl N k16 k a.1 a.2) ((upd wwo_16 ((nI (k16 + 1)).toNatClampNeg) (-9)), (upd wsu_16 ((nI (k16 + 1)).toNatClampNeg) (-9))) k39 = (wwo_39, wsu_39) →  ∀ (H : Heap) (locs : List Loc), va_P D vwCl (wMo cI h m1 m2 m3 m4 m5 m6 m7 m8 m9 m10 m11 m12 m13 lf tr an pn gr ax ra rp rg rd so sl ces kd pl wt xk xp xw wwo_39 wsu_39 ask shw) H → va_D A (wMo cI h m1 m2 m3 m4 m5 m6 m7 m8 m9 m10 m11 m12 m13 lf tr an pn gr ax ra rp rg rd so sl ces kd pl wt xk xp xw wwo_39 wsu_39 ask shw) → va_S A s.heap H locs → ∀ (ls : Array Slot), lv_has ls 6 [(0, .ref h), (1, .int mo), (2, .int (nI (k16 + 1))), (3, .int (nI k39))] → W p l e { frames := 3, cells := 0, slots := 0, locals := 73 } s m ([.ref h, .int mo] : List Value).toArray below meth c H locs 0 0 Qf (F0 m 39 ls []) := by
        intro n
        induction n with
        | zero => intro k39 h1 h2; exact absurd h2 (by omega)
        | succ n ih =>
          intro k39 hk39 hn39 wwo_39 wsu_39 hacc39  H locs hP hD hS ls hl
          have ih39 := ih
          refine lv_iload_n hx hb dX4_findWorst_39 rfl (lv_at hl 3 rfl) ?_
          refine lv_aload_n hx hb dX4_findWorst_40 rfl (lv_at hl 0 rfl) ?_
          refine va_get (D := D) (ci := 4) (v := .int an) (C := RX4) (T := TX4) (N := 23) hx hb hts (fun _ h => List.mem_cons_of_mem _ (List.mem_append_right _ h)) hown hK.1 hP 0 rfl rfl 5 (by decide) (hts (.fieldLink RX4 59 "LieNightsModel" "answers" "I") (List.mem_of_getElem? (i := 3) rfl)) (fun _ h9 => h9) rfl dX4_findWorst_41 ?_
          refine lv_icmp_ge (tgt := 161) hx hb dX4_findWorst_44 (by decide) (fun c44 => ?_) (fun c44 => ?_)
          · skip
            have hkN : k39 = N := (kEnd hk39 rfl ha (by omega) c44)
            rw [hkN] at hacc39
            have hR5 : sX4_findWorst_16 kd pl N k16 wwo_16 wsu_16 = aX4_findWorst_39  wwo_39 wsu_39 := hR4.trans (lp_end (x := (wwo_39, wsu_39)) (g := (fun a => aX4_findWorst_39  a.1 a.2)) hacc39)
            refine lv_iinc (v := (nI ((k16 + 1) + 1))) (lv' := [(2, .int (nI ((k16 + 1) + 1))), (0, .ref h), (1, .int mo), (3, .int (nI k39))]) hx hb dX4_findWorst_161 hl (k := 2) rfl (nI_1 ((k16 + 1))) (by decide) rfl (fun ls hl => ?_)
            refine lv_goto (tgt := 16) hx hb dX4_findWorst_164 (by decide) ?_
            have hR6 : sX4_findWorst_16 kd pl N k16 wwo_16 wsu_16 = (wwo_39, wsu_39) := hR5.trans rfl
            exact ih16 (k16 + 1) hlt16 (by omega) _ _ (lp_next hacc16 hR6)  _ _ hP hD hS ls (lv_sub hl [1, 2, 0] rfl)
          have hlt39 : k39 < N := (kLt hk39 rfl ha c44)
          refine lv_aload_n hx hb dX4_findWorst_47 rfl (lv_at hl 0 rfl) ?_
          refine lv_iload_n hx hb dX4_findWorst_48 rfl (lv_at hl 3 rfl) ?_
          refine lv_iload_n hx hb dX4_findWorst_49 rfl (lv_at hl 2 rfl) ?_
          refine kPi (va_runV (As := [.int (nI k39), .int (nI (k16 + 1))]) (rest := []) ⟨hx, hb, hml, hown, hts⟩ (c_X4_worstBy l D cI cS h m1 m2 m3 m4 m5 m6 m7 m8 m9 m10 m11 m12 m13 lf tr an pn gr ax ra rp rg rd so sl ces kd pl wt xk xp xw wwo_39 wsu_39 ask shw N (nI k39) (nI (k16 + 1)) ha hN (vp_in_nI (by omega) (by decide))) (cwV 2 hts gX4_findWorst_X4_worstBy rfl rfl rfl q_X4_worstBy ⟨Nat.le_of_ble_eq_true rfl, Nat.le_of_ble_eq_true rfl⟩) (kPV hK hP [0, 1, 2, 3, 4, 5, 6, 7, 8, 9, 10, 11, 12, 13] rfl (va_recv hK.1 hP (ci := 4) (q0 := 0) rfl rfl) [.int (nI k39), .int (nI (k16 + 1))]) rfl rfl hl.1 rfl (lv_room (Nat.le_of_ble_eq_true rfl)) dX4_findWorst_50 ⟨Nat.zero_le _, Nat.zero_le _⟩) ?_
          refine lv_istore (lv' := [(4, .int (fX4_worstBy kd pl wwo_39 N (nI k39) (nI (k16 + 1)))), (0, .ref h), (1, .int mo), (2, .int (nI (k16 + 1))), (3, .int (nI k39))]) hx hb dX4_findWorst_53 hl (by decide) rfl (fun ls hl => ?_)
          refine lv_aload_n hx hb dX4_findWorst_55 rfl (lv_at hl 1 rfl) ?_
          refine lv_iload_n hx hb dX4_findWorst_56 rfl (lv_at hl 4 rfl) ?_
          refine lv_iload_n hx hb dX4_findWorst_57 rfl (lv_at hl 3 rfl) ?_
          refine kPi (va_runV (As := [.int (nI k39), .int (nI (k16 + 1))]) (rest := []) ⟨hx, hb, hml, hown, hts⟩ (c_X4_sumBy l D cI cS h m1 m2 m3 m4 m5 m6 m7 m8 m9 m10 m11 m12 m13 lf tr an pn gr ax ra rp rg rd so sl ces kd pl wt xk xp xw wwo_39 wsu_39 ask shw N (k16 + 1) (nI k39) (nI (k16 + 1)) ha hN (vp_in_nI (by omega) (by decide)) rfl (by omega)) (cwV 2 hts gX4_findWorst_X4_sumBy rfl rfl rfl q_X4_sumBy ⟨Nat.le_of_ble_eq_true rfl, Nat.le_of_ble_eq_true rfl⟩) (kPV hK hP [0, 1, 2, 3, 4, 5, 6, 7, 8, 9, 10, 11, 12, 13] rfl (va_recv hK.1 hP (ci := 4) (q0 := 0) rfl rfl) [.int (nI k39), .int (nI (k16 + 1))]) rfl rfl hl.1 rfl (lv_room (Nat.le_of_ble_eq_true rfl)) dX4_findWorst_58 ⟨Nat.zero_le _, Nat.zero_le _⟩) ?_
          refine lv_istore (lv' := [(5, .int (fX4_sumBy kd pl wsu_39 N (k16 + 1) (nI k39) (nI (k16 + 1)))), (4, .int (fX4_worstBy kd pl wwo_39 N (nI k39) (nI (k16 + 1)))), (0, .ref h), (1, .int mo), (2, .int (nI (k16 + 1))), (3, .int (nI k39))]) hx hb dX4_findWorst_61 hl (by decide) rfl (fun ls hl => ?_)
          refine lv_aload_n hx hb dX4_findWorst_63 rfl (lv_at hl 2 rfl) ?_
          refine va_get (D := D) (ci := 4) (v := .ref m10) (C := RX4) (T := TX4) (N := 23) hx hb hts (fun _ h => List.mem_cons_of_mem _ (List.mem_append_right _ h)) hown hK.1 hP 0 rfl rfl 18 (by decide) (hts (.fieldLink RX4 37 "LieNightsModel" "worstOf" "[I") (List.mem_of_getElem? (i := 1) rfl)) (fun _ h9 => h9) rfl dX4_findWorst_64 ?_
          refine lv_iload_n hx hb dX4_findWorst_67 rfl (lv_at hl 4 rfl) ?_
          refine lv_iload hx hb dX4_findWorst_68 (lv_at hl 1 rfl) ?_
          refine lv_bipush (v := (-9)) hx hb dX4_findWorst_70 (by decide) ?_
          refine lv_icmp_eq (tgt := 102) hx hb dX4_findWorst_72 (by decide) (fun c72 => ?_) (fun c72 => ?_)
          · skip
            refine lv_aload_n hx hb dX4_findWorst_102 rfl (lv_at hl 2 rfl) ?_
            refine va_get (D := D) (ci := 4) (v := .ref m10) (C := RX4) (T := TX4) (N := 23) hx hb hts (fun _ h => List.mem_cons_of_mem _ (List.mem_append_right _ h)) hown hK.1 hP 0 rfl rfl 18 (by decide) (hts (.fieldLink RX4 37 "LieNightsModel" "worstOf" "[I") (List.mem_of_getElem? (i := 1) rfl)) (fun _ h9 => h9) rfl dX4_findWorst_103 ?_
            refine lv_iload_n hx hb dX4_findWorst_106 rfl (lv_at hl 4 rfl) ?_
            refine va_iald hx hb hK.1 hP 10 0 rfl rfl (vp_in_nI (by omega) (by decide)) dX4_findWorst_107 ?_
            refine va_iast hx hb hK.1 hP hD hS 10 0 rfl rfl (vp_in_nI (by omega) (by decide)) dX4_findWorst_108 (fun H locs hP hD hS => ?_)
            have hP : va_P D vwCl (wMo cI h m1 m2 m3 m4 m5 m6 m7 m8 m9 m10 m11 m12 m13 lf tr an pn gr ax ra rp rg rd so sl ces kd pl wt xk xp xw (upd wwo_39 ((nI (k16 + 1)).toNatClampNeg) (wwo_39 (nI (k16 + 1)).toNatClampNeg)) wsu_39 ask shw) H := hP
            have hD : va_D A (wMo cI h m1 m2 m3 m4 m5 m6 m7 m8 m9 m10 m11 m12 m13 lf tr an pn gr ax ra rp rg rd so sl ces kd pl wt xk xp xw (upd wwo_39 ((nI (k16 + 1)).toNatClampNeg) (wwo_39 (nI (k16 + 1)).toNatClampNeg)) wsu_39 ask shw) := hD
            refine lv_aload_n hx hb dX4_findWorst_109 rfl (lv_at hl 2 rfl) ?_
            refine va_get (D := D) (ci := 4) (v := .ref m11) (C := RX4) (T := TX4) (N := 23) hx hb hts (fun _ h => List.mem_cons_of_mem _ (List.mem_append_right _ h)) hown hK.1 hP 0 rfl rfl 19 (by decide) (hts (.fieldLink RX4 40 "LieNightsModel" "sumOf" "[I") (List.mem_of_getElem? (i := 2) rfl)) (fun _ h9 => h9) rfl dX4_findWorst_110 ?_
            refine lv_iload_n hx hb dX4_findWorst_113 rfl (lv_at hl 4 rfl) ?_
            refine lv_iload hx hb dX4_findWorst_114 (lv_at hl 0 rfl) ?_
            refine lv_bipush (v := (-9)) hx hb dX4_findWorst_116 (by decide) ?_
            refine lv_icmp_eq (tgt := 148) hx hb dX4_findWorst_118 (by decide) (fun c118 => ?_) (fun c118 => ?_)
            · skip
              refine lv_aload_n hx hb dX4_findWorst_148 rfl (lv_at hl 2 rfl) ?_
              refine va_get (D := D) (ci := 4) (v := .ref m11) (C := RX4) (T := TX4) (N := 23) hx hb hts (fun _ h => List.mem_cons_of_mem _ (List.mem_append_right _ h)) hown hK.1 hP 0 rfl rfl 19 (by decide) (hts (.fieldLink RX4 40 "LieNightsModel" "sumOf" "[I") (List.mem_of_getElem? (i := 2) rfl)) (fun _ h9 => h9) rfl dX4_findWorst_149 ?_
              refine lv_iload_n hx hb dX4_findWorst_152 rfl (lv_at hl 4 rfl) ?_
              refine va_iald hx hb hK.1 hP 11 0 rfl rfl (vp_in_nI (by omega) (by decide)) dX4_findWorst_153 ?_
              refine va_iast hx hb hK.1 hP hD hS 11 0 rfl rfl (vp_in_nI (by omega) (by decide)) dX4_findWorst_154 (fun H locs hP hD hS => ?_)
              have hP : va_P D vwCl (wMo cI h m1 m2 m3 m4 m5 m6 m7 m8 m9 m10 m11 m12 m13 lf tr an pn gr ax ra rp rg rd so sl ces kd pl wt xk xp xw (upd wwo_39 ((nI (k16 + 1)).toNatClampNeg) (wwo_39 (nI (k16 + 1)).toNatClampNeg)) (upd wsu_39 ((nI (k16 + 1)).toNatClampNeg) (wsu_39 (nI (k16 + 1)).toNatClampNeg)) ask shw) H := hP
              have hD : va_D A (wMo cI h m1 m2 m3 m4 m5 m6 m7 m8 m9 m10 m11 m12 m13 lf tr an pn gr ax ra rp rg rd so sl ces kd pl wt xk xp xw (upd wwo_39 ((nI (k16 + 1)).toNatClampNeg) (wwo_39 (nI (k16 + 1)).toNatClampNeg)) (upd wsu_39 ((nI (k16 + 1)).toNatClampNeg) (wsu_39 (nI (k16 + 1)).toNatClampNeg)) ask shw) := hD
              refine lv_iinc (v := (nI (k39 + 1))) (lv' := [(3, .int (nI (k39 + 1))), (5, .int (fX4_sumBy kd pl wsu_39 N (k16 + 1) (nI k39) (nI (k16 + 1)))), (4, .int (fX4_worstBy kd pl wwo_39 N (nI k39) (nI (k16 + 1)))), (0, .ref h), (1, .int mo), (2, .int (nI (k16 + 1)))]) hx hb dX4_findWorst_155 hl (k := 5) rfl (nI_1 (k39)) (by decide) rfl (fun ls hl => ?_)
              refine lv_goto (tgt := 39) hx hb dX4_findWorst_158 (by decide) ?_
              have hR7 : sX4_findWorst_39 kd pl N k16 k39 wwo_39 wsu_39 = ((upd wwo_39 ((nI (k16 + 1)).toNatClampNeg) (wwo_39 (nI (k16 + 1)).toNatClampNeg)), (upd wsu_39 ((nI (k16 + 1)).toNatClampNeg) (wsu_39 (nI (k16 + 1)).toNatClampNeg))) := (by unfold sX4_findWorst_39; rw [if_pos c72, if_pos c118])
              exact ih39 (k39 + 1) hlt39 (by omega) _ _ (lp_next hacc39 hR7)  _ _ hP hD hS ls (lv_sub hl [3, 4, 5, 0] rfl)
            refine lv_aload_n hx hb dX4_findWorst_121 rfl (lv_at hl 2 rfl) ?_
            refine va_get (D := D) (ci := 4) (v := .ref m11) (C := RX4) (T := TX4) (N := 23) hx hb hts (fun _ h => List.mem_cons_of_mem _ (List.mem_append_right _ h)) hown hK.1 hP 0 rfl rfl 19 (by decide) (hts (.fieldLink RX4 40 "LieNightsModel" "sumOf" "[I") (List.mem_of_getElem? (i := 2) rfl)) (fun _ h9 => h9) rfl dX4_findWorst_122 ?_
            refine lv_iload_n hx hb dX4_findWorst_125 rfl (lv_at hl 4 rfl) ?_
            refine va_iald hx hb hK.1 hP 11 0 rfl rfl (vp_in_nI (by omega) (by decide)) dX4_findWorst_126 ?_
            refine lv_bipush (v := (-9)) hx hb dX4_findWorst_127 (by decide) ?_
            refine lv_icmp_eq (tgt := 143) hx hb dX4_findWorst_129 (by decide) (fun c129 => ?_) (fun c129 => ?_)
            · skip
              refine lv_iload hx hb dX4_findWorst_143 (lv_at hl 0 rfl) ?_
              refine lv_goto (tgt := 154) hx hb dX4_findWorst_145 (by decide) ?_
              refine va_iast hx hb hK.1 hP hD hS 11 0 rfl rfl (vp_in_nI (by omega) (by decide)) dX4_findWorst_154 (fun H locs hP hD hS => ?_)
              have hP : va_P D vwCl (wMo cI h m1 m2 m3 m4 m5 m6 m7 m8 m9 m10 m11 m12 m13 lf tr an pn gr ax ra rp rg rd so sl ces kd pl wt xk xp xw (upd wwo_39 ((nI (k16 + 1)).toNatClampNeg) (wwo_39 (nI (k16 + 1)).toNatClampNeg)) (upd wsu_39 ((nI (k16 + 1)).toNatClampNeg) (fX4_sumBy kd pl wsu_39 N (k16 + 1) (nI k39) (nI (k16 + 1)))) ask shw) H := hP
              have hD : va_D A (wMo cI h m1 m2 m3 m4 m5 m6 m7 m8 m9 m10 m11 m12 m13 lf tr an pn gr ax ra rp rg rd so sl ces kd pl wt xk xp xw (upd wwo_39 ((nI (k16 + 1)).toNatClampNeg) (wwo_39 (nI (k16 + 1)).toNatClampNeg)) (upd wsu_39 ((nI (k16 + 1)).toNatClampNeg) (fX4_sumBy kd pl wsu_39 N (k16 + 1) (nI k39) (nI (k16 + 1)))) ask shw) := hD
              refine lv_iinc (v := (nI (k39 + 1))) (lv' := [(3, .int (nI (k39 + 1))), (5, .int (fX4_sumBy kd pl wsu_39 N (k16 + 1) (nI k39) (nI (k16 + 1)))), (4, .int (fX4_worstBy kd pl wwo_39 N (nI k39) (nI (k16 + 1)))), (0, .ref h), (1, .int mo), (2, .int (nI (k16 + 1)))]) hx hb dX4_findWorst_155 hl (k := 5) rfl (nI_1 (k39)) (by decide) rfl (fun ls hl => ?_)
              refine lv_goto (tgt := 39) hx hb dX4_findWorst_158 (by decide) ?_
              have hR8 : sX4_findWorst_39 kd pl N k16 k39 wwo_39 wsu_39 = ((upd wwo_39 ((nI (k16 + 1)).toNatClampNeg) (wwo_39 (nI (k16 + 1)).toNatClampNeg)), (upd wsu_39 ((nI (k16 + 1)).toNatClampNeg) (fX4_sumBy kd pl wsu_39 N (k16 + 1) (nI k39) (nI (k16 + 1))))) := (by unfold sX4_findWorst_39; rw [if_pos c72, if_neg c118, if_pos c129])
              exact ih39 (k39 + 1) hlt39 (by omega) _ _ (lp_next hacc39 hR8)  _ _ hP hD hS ls (lv_sub hl [3, 4, 5, 0] rfl)
            refine lv_iload hx hb dX4_findWorst_132 (lv_at hl 0 rfl) ?_
            refine lv_aload_n hx hb dX4_findWorst_134 rfl (lv_at hl 2 rfl) ?_
            refine va_get (D := D) (ci := 4) (v := .ref m11) (C := RX4) (T := TX4) (N := 23) hx hb hts (fun _ h => List.mem_cons_of_mem _ (List.mem_append_right _ h)) hown hK.1 hP 0 rfl rfl 19 (by decide) (hts (.fieldLink RX4 40 "LieNightsModel" "sumOf" "[I") (List.mem_of_getElem? (i := 2) rfl)) (fun _ h9 => h9) rfl dX4_findWorst_135 ?_
            refine lv_iload_n hx hb dX4_findWorst_138 rfl (lv_at hl 4 rfl) ?_
            refine va_iald hx hb hK.1 hP 11 0 rfl rfl (vp_in_nI (by omega) (by decide)) dX4_findWorst_139 ?_
            refine lv_icmp_ge (tgt := 148) hx hb dX4_findWorst_140 (by decide) (fun c140 => ?_) (fun c140 => ?_)
            · skip
              refine lv_aload_n hx hb dX4_findWorst_148 rfl (lv_at hl 2 rfl) ?_
              refine va_get (D := D) (ci := 4) (v := .ref m11) (C := RX4) (T := TX4) (N := 23) hx hb hts (fun _ h => List.mem_cons_of_mem _ (List.mem_append_right _ h)) hown hK.1 hP 0 rfl rfl 19 (by decide) (hts (.fieldLink RX4 40 "LieNightsModel" "sumOf" "[I") (List.mem_of_getElem? (i := 2) rfl)) (fun _ h9 => h9) rfl dX4_findWorst_149 ?_
              refine lv_iload_n hx hb dX4_findWorst_152 rfl (lv_at hl 4 rfl) ?_
              refine va_iald hx hb hK.1 hP 11 0 rfl rfl (vp_in_nI (by omega) (by decide)) dX4_findWorst_153 ?_
              refine va_iast hx hb hK.1 hP hD hS 11 0 rfl rfl (vp_in_nI (by omega) (by decide)) dX4_findWorst_154 (fun H locs hP hD hS => ?_)
              have hP : va_P D vwCl (wMo cI h m1 m2 m3 m4 m5 m6 m7 m8 m9 m10 m11 m12 m13 lf tr an pn gr ax ra rp rg rd so sl ces kd pl wt xk xp xw (upd wwo_39 ((nI (k16 + 1)).toNatClampNeg) (wwo_39 (nI (k16 + 1)).toNatClampNeg)) (upd wsu_39 ((nI (k16 + 1)).toNatClampNeg) (wsu_39 (nI (k16 + 1)).toNatClampNeg)) ask shw) H := hP
              have hD : va_D A (wMo cI h m1 m2 m3 m4 m5 m6 m7 m8 m9 m10 m11 m12 m13 lf tr an pn gr ax ra rp rg rd so sl ces kd pl wt xk xp xw (upd wwo_39 ((nI (k16 + 1)).toNatClampNeg) (wwo_39 (nI (k16 + 1)).toNatClampNeg)) (upd wsu_39 ((nI (k16 + 1)).toNatClampNeg) (wsu_39 (nI (k16 + 1)).toNatClampNeg)) ask shw) := hD
              refine lv_iinc (v := (nI (k39 + 1))) (lv' := [(3, .int (nI (k39 + 1))), (5, .int (fX4_sumBy kd pl wsu_39 N (k16 + 1) (nI k39) (nI (k16 + 1)))), (4, .int (fX4_worstBy kd pl wwo_39 N (nI k39) (nI (k16 + 1)))), (0, .ref h), (1, .int mo), (2, .int (nI (k16 + 1)))]) hx hb dX4_findWorst_155 hl (k := 5) rfl (nI_1 (k39)) (by decide) rfl (fun ls hl => ?_)
              refine lv_goto (tgt := 39) hx hb dX4_findWorst_158 (by decide) ?_
              have hR9 : sX4_findWorst_39 kd pl N k16 k39 wwo_39 wsu_39 = ((upd wwo_39 ((nI (k16 + 1)).toNatClampNeg) (wwo_39 (nI (k16 + 1)).toNatClampNeg)), (upd wsu_39 ((nI (k16 + 1)).toNatClampNeg) (wsu_39 (nI (k16 + 1)).toNatClampNeg))) := (by unfold sX4_findWorst_39; rw [if_pos c72, if_neg c118, if_neg c129, if_pos c140])
              exact ih39 (k39 + 1) hlt39 (by omega) _ _ (lp_next hacc39 hR9)  _ _ hP hD hS ls (lv_sub hl [3, 4, 5, 0] rfl)
            refine lv_iload hx hb dX4_findWorst_143 (lv_at hl 0 rfl) ?_
            refine lv_goto (tgt := 154) hx hb dX4_findWorst_145 (by decide) ?_
            refine va_iast hx hb hK.1 hP hD hS 11 0 rfl rfl (vp_in_nI (by omega) (by decide)) dX4_findWorst_154 (fun H locs hP hD hS => ?_)
            have hP : va_P D vwCl (wMo cI h m1 m2 m3 m4 m5 m6 m7 m8 m9 m10 m11 m12 m13 lf tr an pn gr ax ra rp rg rd so sl ces kd pl wt xk xp xw (upd wwo_39 ((nI (k16 + 1)).toNatClampNeg) (wwo_39 (nI (k16 + 1)).toNatClampNeg)) (upd wsu_39 ((nI (k16 + 1)).toNatClampNeg) (fX4_sumBy kd pl wsu_39 N (k16 + 1) (nI k39) (nI (k16 + 1)))) ask shw) H := hP
            have hD : va_D A (wMo cI h m1 m2 m3 m4 m5 m6 m7 m8 m9 m10 m11 m12 m13 lf tr an pn gr ax ra rp rg rd so sl ces kd pl wt xk xp xw (upd wwo_39 ((nI (k16 + 1)).toNatClampNeg) (wwo_39 (nI (k16 + 1)).toNatClampNeg)) (upd wsu_39 ((nI (k16 + 1)).toNatClampNeg) (fX4_sumBy kd pl wsu_39 N (k16 + 1) (nI k39) (nI (k16 + 1)))) ask shw) := hD
            refine lv_iinc (v := (nI (k39 + 1))) (lv' := [(3, .int (nI (k39 + 1))), (5, .int (fX4_sumBy kd pl wsu_39 N (k16 + 1) (nI k39) (nI (k16 + 1)))), (4, .int (fX4_worstBy kd pl wwo_39 N (nI k39) (nI (k16 + 1)))), (0, .ref h), (1, .int mo), (2, .int (nI (k16 + 1)))]) hx hb dX4_findWorst_155 hl (k := 5) rfl (nI_1 (k39)) (by decide) rfl (fun ls hl => ?_)
            refine lv_goto (tgt := 39) hx hb dX4_findWorst_158 (by decide) ?_
            have hR10 : sX4_findWorst_39 kd pl N k16 k39 wwo_39 wsu_39 = ((upd wwo_39 ((nI (k16 + 1)).toNatClampNeg) (wwo_39 (nI (k16 + 1)).toNatClampNeg)), (upd wsu_39 ((nI (k16 + 1)).toNatClampNeg) (fX4_sumBy kd pl wsu_39 N (k16 + 1) (nI k39) (nI (k16 + 1))))) := (by unfold sX4_findWorst_39; rw [if_pos c72, if_neg c118, if_neg c129, if_neg c140])
            exact ih39 (k39 + 1) hlt39 (by omega) _ _ (lp_next hacc39 hR10)  _ _ hP hD hS ls (lv_sub hl [3, 4, 5, 0] rfl)
          refine lv_aload_n hx hb dX4_findWorst_75 rfl (lv_at hl 2 rfl) ?_
          refine va_get (D := D) (ci := 4) (v := .ref m10) (C := RX4) (T := TX4) (N := 23) hx hb hts (fun _ h => List.mem_cons_of_mem _ (List.mem_append_right _ h)) hown hK.1 hP 0 rfl rfl 18 (by decide) (hts (.fieldLink RX4 37 "LieNightsModel" "worstOf" "[I") (List.mem_of_getElem? (i := 1) rfl)) (fun _ h9 => h9) rfl dX4_findWorst_76 ?_
          refine lv_iload_n hx hb dX4_findWorst_79 rfl (lv_at hl 4 rfl) ?_
          refine va_iald hx hb hK.1 hP 10 0 rfl rfl (vp_in_nI (by omega) (by decide)) dX4_findWorst_80 ?_
          refine lv_bipush (v := (-9)) hx hb dX4_findWorst_81 (by decide) ?_
          refine lv_icmp_eq (tgt := 97) hx hb dX4_findWorst_83 (by decide) (fun c83 => ?_) (fun c83 => ?_)
          · skip
            refine lv_iload hx hb dX4_findWorst_97 (lv_at hl 1 rfl) ?_
            refine lv_goto (tgt := 108) hx hb dX4_findWorst_99 (by decide) ?_
            refine va_iast hx hb hK.1 hP hD hS 10 0 rfl rfl (vp_in_nI (by omega) (by decide)) dX4_findWorst_108 (fun H locs hP hD hS => ?_)
            have hP : va_P D vwCl (wMo cI h m1 m2 m3 m4 m5 m6 m7 m8 m9 m10 m11 m12 m13 lf tr an pn gr ax ra rp rg rd so sl ces kd pl wt xk xp xw (upd wwo_39 ((nI (k16 + 1)).toNatClampNeg) (fX4_worstBy kd pl wwo_39 N (nI k39) (nI (k16 + 1)))) wsu_39 ask shw) H := hP
            have hD : va_D A (wMo cI h m1 m2 m3 m4 m5 m6 m7 m8 m9 m10 m11 m12 m13 lf tr an pn gr ax ra rp rg rd so sl ces kd pl wt xk xp xw (upd wwo_39 ((nI (k16 + 1)).toNatClampNeg) (fX4_worstBy kd pl wwo_39 N (nI k39) (nI (k16 + 1)))) wsu_39 ask shw) := hD
            refine lv_aload_n hx hb dX4_findWorst_109 rfl (lv_at hl 2 rfl) ?_
            refine va_get (D := D) (ci := 4) (v := .ref m11) (C := RX4) (T := TX4) (N := 23) hx hb hts (fun _ h => List.mem_cons_of_mem _ (List.mem_append_right _ h)) hown hK.1 hP 0 rfl rfl 19 (by decide) (hts (.fieldLink RX4 40 "LieNightsModel" "sumOf" "[I") (List.mem_of_getElem? (i := 2) rfl)) (fun _ h9 => h9) rfl dX4_findWorst_110 ?_
            refine lv_iload_n hx hb dX4_findWorst_113 rfl (lv_at hl 4 rfl) ?_
            refine lv_iload hx hb dX4_findWorst_114 (lv_at hl 0 rfl) ?_
            refine lv_bipush (v := (-9)) hx hb dX4_findWorst_116 (by decide) ?_
            refine lv_icmp_eq (tgt := 148) hx hb dX4_findWorst_118 (by decide) (fun c118 => ?_) (fun c118 => ?_)
            · skip
              refine lv_aload_n hx hb dX4_findWorst_148 rfl (lv_at hl 2 rfl) ?_
              refine va_get (D := D) (ci := 4) (v := .ref m11) (C := RX4) (T := TX4) (N := 23) hx hb hts (fun _ h => List.mem_cons_of_mem _ (List.mem_append_right _ h)) hown hK.1 hP 0 rfl rfl 19 (by decide) (hts (.fieldLink RX4 40 "LieNightsModel" "sumOf" "[I") (List.mem_of_getElem? (i := 2) rfl)) (fun _ h9 => h9) rfl dX4_findWorst_149 ?_
              refine lv_iload_n hx hb dX4_findWorst_152 rfl (lv_at hl 4 rfl) ?_
              refine va_iald hx hb hK.1 hP 11 0 rfl rfl (vp_in_nI (by omega) (by decide)) dX4_findWorst_153 ?_
              refine va_iast hx hb hK.1 hP hD hS 11 0 rfl rfl (vp_in_nI (by omega) (by decide)) dX4_findWorst_154 (fun H locs hP hD hS => ?_)
              have hP : va_P D vwCl (wMo cI h m1 m2 m3 m4 m5 m6 m7 m8 m9 m10 m11 m12 m13 lf tr an pn gr ax ra rp rg rd so sl ces kd pl wt xk xp xw (upd wwo_39 ((nI (k16 + 1)).toNatClampNeg) (fX4_worstBy kd pl wwo_39 N (nI k39) (nI (k16 + 1)))) (upd wsu_39 ((nI (k16 + 1)).toNatClampNeg) (wsu_39 (nI (k16 + 1)).toNatClampNeg)) ask shw) H := hP
              have hD : va_D A (wMo cI h m1 m2 m3 m4 m5 m6 m7 m8 m9 m10 m11 m12 m13 lf tr an pn gr ax ra rp rg rd so sl ces kd pl wt xk xp xw (upd wwo_39 ((nI (k16 + 1)).toNatClampNeg) (fX4_worstBy kd pl wwo_39 N (nI k39) (nI (k16 + 1)))) (upd wsu_39 ((nI (k16 + 1)).toNatClampNeg) (wsu_39 (nI (k16 + 1)).toNatClampNeg)) ask shw) := hD
              refine lv_iinc (v := (nI (k39 + 1))) (lv' := [(3, .int (nI (k39 + 1))), (5, .int (fX4_sumBy kd pl wsu_39 N (k16 + 1) (nI k39) (nI (k16 + 1)))), (4, .int (fX4_worstBy kd pl wwo_39 N (nI k39) (nI (k16 + 1)))), (0, .ref h), (1, .int mo), (2, .int (nI (k16 + 1)))]) hx hb dX4_findWorst_155 hl (k := 5) rfl (nI_1 (k39)) (by decide) rfl (fun ls hl => ?_)
              refine lv_goto (tgt := 39) hx hb dX4_findWorst_158 (by decide) ?_
              have hR11 : sX4_findWorst_39 kd pl N k16 k39 wwo_39 wsu_39 = ((upd wwo_39 ((nI (k16 + 1)).toNatClampNeg) (fX4_worstBy kd pl wwo_39 N (nI k39) (nI (k16 + 1)))), (upd wsu_39 ((nI (k16 + 1)).toNatClampNeg) (wsu_39 (nI (k16 + 1)).toNatClampNeg))) := (by unfold sX4_findWorst_39; rw [if_neg c72, if_pos c83, if_pos c118])
              exact ih39 (k39 + 1) hlt39 (by omega) _ _ (lp_next hacc39 hR11)  _ _ hP hD hS ls (lv_sub hl [3, 4, 5, 0] rfl)
            refine lv_aload_n hx hb dX4_findWorst_121 rfl (lv_at hl 2 rfl) ?_
            refine va_get (D := D) (ci := 4) (v := .ref m11) (C := RX4) (T := TX4) (N := 23) hx hb hts (fun _ h => List.mem_cons_of_mem _ (List.mem_append_right _ h)) hown hK.1 hP 0 rfl rfl 19 (by decide) (hts (.fieldLink RX4 40 "LieNightsModel" "sumOf" "[I") (List.mem_of_getElem? (i := 2) rfl)) (fun _ h9 => h9) rfl dX4_findWorst_122 ?_
            refine lv_iload_n hx hb dX4_findWorst_125 rfl (lv_at hl 4 rfl) ?_
            refine va_iald hx hb hK.1 hP 11 0 rfl rfl (vp_in_nI (by omega) (by decide)) dX4_findWorst_126 ?_
            refine lv_bipush (v := (-9)) hx hb dX4_findWorst_127 (by decide) ?_
            refine lv_icmp_eq (tgt := 143) hx hb dX4_findWorst_129 (by decide) (fun c129 => ?_) (fun c129 => ?_)
            · skip
              refine lv_iload hx hb dX4_findWorst_143 (lv_at hl 0 rfl) ?_
              refine lv_goto (tgt := 154) hx hb dX4_findWorst_145 (by decide) ?_
              refine va_iast hx hb hK.1 hP hD hS 11 0 rfl rfl (vp_in_nI (by omega) (by decide)) dX4_findWorst_154 (fun H locs hP hD hS => ?_)
              have hP : va_P D vwCl (wMo cI h m1 m2 m3 m4 m5 m6 m7 m8 m9 m10 m11 m12 m13 lf tr an pn gr ax ra rp rg rd so sl ces kd pl wt xk xp xw (upd wwo_39 ((nI (k16 + 1)).toNatClampNeg) (fX4_worstBy kd pl wwo_39 N (nI k39) (nI (k16 + 1)))) (upd wsu_39 ((nI (k16 + 1)).toNatClampNeg) (fX4_sumBy kd pl wsu_39 N (k16 + 1) (nI k39) (nI (k16 + 1)))) ask shw) H := hP
              have hD : va_D A (wMo cI h m1 m2 m3 m4 m5 m6 m7 m8 m9 m10 m11 m12 m13 lf tr an pn gr ax ra rp rg rd so sl ces kd pl wt xk xp xw (upd wwo_39 ((nI (k16 + 1)).toNatClampNeg) (fX4_worstBy kd pl wwo_39 N (nI k39) (nI (k16 + 1)))) (upd wsu_39 ((nI (k16 + 1)).toNatClampNeg) (fX4_sumBy kd pl wsu_39 N (k16 + 1) (nI k39) (nI (k16 + 1)))) ask shw) := hD
              refine lv_iinc (v := (nI (k39 + 1))) (lv' := [(3, .int (nI (k39 + 1))), (5, .int (fX4_sumBy kd pl wsu_39 N (k16 + 1) (nI k39) (nI (k16 + 1)))), (4, .int (fX4_worstBy kd pl wwo_39 N (nI k39) (nI (k16 + 1)))), (0, .ref h), (1, .int mo), (2, .int (nI (k16 + 1)))]) hx hb dX4_findWorst_155 hl (k := 5) rfl (nI_1 (k39)) (by decide) rfl (fun ls hl => ?_)
              refine lv_goto (tgt := 39) hx hb dX4_findWorst_158 (by decide) ?_
              have hR12 : sX4_findWorst_39 kd pl N k16 k39 wwo_39 wsu_39 = ((upd wwo_39 ((nI (k16 + 1)).toNatClampNeg) (fX4_worstBy kd pl wwo_39 N (nI k39) (nI (k16 + 1)))), (upd wsu_39 ((nI (k16 + 1)).toNatClampNeg) (fX4_sumBy kd pl wsu_39 N (k16 + 1) (nI k39) (nI (k16 + 1))))) := (by unfold sX4_findWorst_39; rw [if_neg c72, if_pos c83, if_neg c118, if_pos c129])
              exact ih39 (k39 + 1) hlt39 (by omega) _ _ (lp_next hacc39 hR12)  _ _ hP hD hS ls (lv_sub hl [3, 4, 5, 0] rfl)
            refine lv_iload hx hb dX4_findWorst_132 (lv_at hl 0 rfl) ?_
            refine lv_aload_n hx hb dX4_findWorst_134 rfl (lv_at hl 2 rfl) ?_
            refine va_get (D := D) (ci := 4) (v := .ref m11) (C := RX4) (T := TX4) (N := 23) hx hb hts (fun _ h => List.mem_cons_of_mem _ (List.mem_append_right _ h)) hown hK.1 hP 0 rfl rfl 19 (by decide) (hts (.fieldLink RX4 40 "LieNightsModel" "sumOf" "[I") (List.mem_of_getElem? (i := 2) rfl)) (fun _ h9 => h9) rfl dX4_findWorst_135 ?_
            refine lv_iload_n hx hb dX4_findWorst_138 rfl (lv_at hl 4 rfl) ?_
            refine va_iald hx hb hK.1 hP 11 0 rfl rfl (vp_in_nI (by omega) (by decide)) dX4_findWorst_139 ?_
            refine lv_icmp_ge (tgt := 148) hx hb dX4_findWorst_140 (by decide) (fun c140 => ?_) (fun c140 => ?_)
            · skip
              refine lv_aload_n hx hb dX4_findWorst_148 rfl (lv_at hl 2 rfl) ?_
              refine va_get (D := D) (ci := 4) (v := .ref m11) (C := RX4) (T := TX4) (N := 23) hx hb hts (fun _ h => List.mem_cons_of_mem _ (List.mem_append_right _ h)) hown hK.1 hP 0 rfl rfl 19 (by decide) (hts (.fieldLink RX4 40 "LieNightsModel" "sumOf" "[I") (List.mem_of_getElem? (i := 2) rfl)) (fun _ h9 => h9) rfl dX4_findWorst_149 ?_
              refine lv_iload_n hx hb dX4_findWorst_152 rfl (lv_at hl 4 rfl) ?_
              refine va_iald hx hb hK.1 hP 11 0 rfl rfl (vp_in_nI (by omega) (by decide)) dX4_findWorst_153 ?_
              refine va_iast hx hb hK.1 hP hD hS 11 0 rfl rfl (vp_in_nI (by omega) (by decide)) dX4_findWorst_154 (fun H locs hP hD hS => ?_)
              have hP : va_P D vwCl (wMo cI h m1 m2 m3 m4 m5 m6 m7 m8 m9 m10 m11 m12 m13 lf tr an pn gr ax ra rp rg rd so sl ces kd pl wt xk xp xw (upd wwo_39 ((nI (k16 + 1)).toNatClampNeg) (fX4_worstBy kd pl wwo_39 N (nI k39) (nI (k16 + 1)))) (upd wsu_39 ((nI (k16 + 1)).toNatClampNeg) (wsu_39 (nI (k16 + 1)).toNatClampNeg)) ask shw) H := hP
              have hD : va_D A (wMo cI h m1 m2 m3 m4 m5 m6 m7 m8 m9 m10 m11 m12 m13 lf tr an pn gr ax ra rp rg rd so sl ces kd pl wt xk xp xw (upd wwo_39 ((nI (k16 + 1)).toNatClampNeg) (fX4_worstBy kd pl wwo_39 N (nI k39) (nI (k16 + 1)))) (upd wsu_39 ((nI (k16 + 1)).toNatClampNeg) (wsu_39 (nI (k16 + 1)).toNatClampNeg)) ask shw) := hD
              refine lv_iinc (v := (nI (k39 + 1))) (lv' := [(3, .int (nI (k39 + 1))), (5, .int (fX4_sumBy kd pl wsu_39 N (k16 + 1) (nI k39) (nI (k16 + 1)))), (4, .int (fX4_worstBy kd pl wwo_39 N (nI k39) (nI (k16 + 1)))), (0, .ref h), (1, .int mo), (2, .int (nI (k16 + 1)))]) hx hb dX4_findWorst_155 hl (k := 5) rfl (nI_1 (k39)) (by decide) rfl (fun ls hl => ?_)
              refine lv_goto (tgt := 39) hx hb dX4_findWorst_158 (by decide) ?_
              have hR13 : sX4_findWorst_39 kd pl N k16 k39 wwo_39 wsu_39 = ((upd wwo_39 ((nI (k16 + 1)).toNatClampNeg) (fX4_worstBy kd pl wwo_39 N (nI k39) (nI (k16 + 1)))), (upd wsu_39 ((nI (k16 + 1)).toNatClampNeg) (wsu_39 (nI (k16 + 1)).toNatClampNeg))) := (by unfold sX4_findWorst_39; rw [if_neg c72, if_pos c83, if_neg c118, if_neg c129, if_pos c140])
              exact ih39 (k39 + 1) hlt39 (by omega) _ _ (lp_next hacc39 hR13)  _ _ hP hD hS ls (lv_sub hl [3, 4, 5, 0] rfl)
            refine lv_iload hx hb dX4_findWorst_143 (lv_at hl 0 rfl) ?_
            refine lv_goto (tgt := 154) hx hb dX4_findWorst_145 (by decide) ?_
            refine va_iast hx hb hK.1 hP hD hS 11 0 rfl rfl (vp_in_nI (by omega) (by decide)) dX4_findWorst_154 (fun H locs hP hD hS => ?_)
            have hP : va_P D vwCl (wMo cI h m1 m2 m3 m4 m5 m6 m7 m8 m9 m10 m11 m12 m13 lf tr an pn gr ax ra rp rg rd so sl ces kd pl wt xk xp xw (upd wwo_39 ((nI (k16 + 1)).toNatClampNeg) (fX4_worstBy kd pl wwo_39 N (nI k39) (nI (k16 + 1)))) (upd wsu_39 ((nI (k16 + 1)).toNatClampNeg) (fX4_sumBy kd pl wsu_39 N (k16 + 1) (nI k39) (nI (k16 + 1)))) ask shw) H := hP
            have hD : va_D A (wMo cI h m1 m2 m3 m4 m5 m6 m7 m8 m9 m10 m11 m12 m13 lf tr an pn gr ax ra rp rg rd so sl ces kd pl wt xk xp xw (upd wwo_39 ((nI (k16 + 1)).toNatClampNeg) (fX4_worstBy kd pl wwo_39 N (nI k39) (nI (k16 + 1)))) (upd wsu_39 ((nI (k16 + 1)).toNatClampNeg) (fX4_sumBy kd pl wsu_39 N (k16 + 1) (nI k39) (nI (k16 + 1)))) ask shw) := hD
            refine lv_iinc (v := (nI (k39 + 1))) (lv' := [(3, .int (nI (k39 + 1))), (5, .int (fX4_sumBy kd pl wsu_39 N (k16 + 1) (nI k39) (nI (k16 + 1)))), (4, .int (fX4_worstBy kd pl wwo_39 N (nI k39) (nI (k16 + 1)))), (0, .ref h), (1, .int mo), (2, .int (nI (k16 + 1)))]) hx hb dX4_findWorst_155 hl (k := 5) rfl (nI_1 (k39)) (by decide) rfl (fun ls hl => ?_)
            refine lv_goto (tgt := 39) hx hb dX4_findWorst_158 (by decide) ?_
            have hR14 : sX4_findWorst_39 kd pl N k16 k39 wwo_39 wsu_39 = ((upd wwo_39 ((nI (k16 + 1)).toNatClampNeg) (fX4_worstBy kd pl wwo_39 N (nI k39) (nI (k16 + 1)))), (upd wsu_39 ((nI (k16 + 1)).toNatClampNeg) (fX4_sumBy kd pl wsu_39 N (k16 + 1) (nI k39) (nI (k16 + 1))))) := (by unfold sX4_findWorst_39; rw [if_neg c72, if_pos c83, if_neg c118, if_neg c129, if_neg c140])
            exact ih39 (k39 + 1) hlt39 (by omega) _ _ (lp_next hacc39 hR14)  _ _ hP hD hS ls (lv_sub hl [3, 4, 5, 0] rfl)
          refine lv_iload hx hb dX4_findWorst_86 (lv_at hl 1 rfl) ?_
          refine lv_aload_n hx hb dX4_findWorst_88 rfl (lv_at hl 2 rfl) ?_
          refine va_get (D := D) (ci := 4) (v := .ref m10) (C := RX4) (T := TX4) (N := 23) hx hb hts (fun _ h => List.mem_cons_of_mem _ (List.mem_append_right _ h)) hown hK.1 hP 0 rfl rfl 18 (by decide) (hts (.fieldLink RX4 37 "LieNightsModel" "worstOf" "[I") (List.mem_of_getElem? (i := 1) rfl)) (fun _ h9 => h9) rfl dX4_findWorst_89 ?_
          refine lv_iload_n hx hb dX4_findWorst_92 rfl (lv_at hl 4 rfl) ?_
          refine va_iald hx hb hK.1 hP 10 0 rfl rfl (vp_in_nI (by omega) (by decide)) dX4_findWorst_93 ?_
          refine lv_icmp_ge (tgt := 102) hx hb dX4_findWorst_94 (by decide) (fun c94 => ?_) (fun c94 => ?_)
          · skip
            refine lv_aload_n hx hb dX4_findWorst_102 rfl (lv_at hl 2 rfl) ?_
            refine va_get (D := D) (ci := 4) (v := .ref m10) (C := RX4) (T := TX4) (N := 23) hx hb hts (fun _ h => List.mem_cons_of_mem _ (List.mem_append_right _ h)) hown hK.1 hP 0 rfl rfl 18 (by decide) (hts (.fieldLink RX4 37 "LieNightsModel" "worstOf" "[I") (List.mem_of_getElem? (i := 1) rfl)) (fun _ h9 => h9) rfl dX4_findWorst_103 ?_
            refine lv_iload_n hx hb dX4_findWorst_106 rfl (lv_at hl 4 rfl) ?_
            refine va_iald hx hb hK.1 hP 10 0 rfl rfl (vp_in_nI (by omega) (by decide)) dX4_findWorst_107 ?_
            refine va_iast hx hb hK.1 hP hD hS 10 0 rfl rfl (vp_in_nI (by omega) (by decide)) dX4_findWorst_108 (fun H locs hP hD hS => ?_)
            have hP : va_P D vwCl (wMo cI h m1 m2 m3 m4 m5 m6 m7 m8 m9 m10 m11 m12 m13 lf tr an pn gr ax ra rp rg rd so sl ces kd pl wt xk xp xw (upd wwo_39 ((nI (k16 + 1)).toNatClampNeg) (wwo_39 (nI (k16 + 1)).toNatClampNeg)) wsu_39 ask shw) H := hP
            have hD : va_D A (wMo cI h m1 m2 m3 m4 m5 m6 m7 m8 m9 m10 m11 m12 m13 lf tr an pn gr ax ra rp rg rd so sl ces kd pl wt xk xp xw (upd wwo_39 ((nI (k16 + 1)).toNatClampNeg) (wwo_39 (nI (k16 + 1)).toNatClampNeg)) wsu_39 ask shw) := hD
            refine lv_aload_n hx hb dX4_findWorst_109 rfl (lv_at hl 2 rfl) ?_
            refine va_get (D := D) (ci := 4) (v := .ref m11) (C := RX4) (T := TX4) (N := 23) hx hb hts (fun _ h => List.mem_cons_of_mem _ (List.mem_append_right _ h)) hown hK.1 hP 0 rfl rfl 19 (by decide) (hts (.fieldLink RX4 40 "LieNightsModel" "sumOf" "[I") (List.mem_of_getElem? (i := 2) rfl)) (fun _ h9 => h9) rfl dX4_findWorst_110 ?_
            refine lv_iload_n hx hb dX4_findWorst_113 rfl (lv_at hl 4 rfl) ?_
            refine lv_iload hx hb dX4_findWorst_114 (lv_at hl 0 rfl) ?_
            refine lv_bipush (v := (-9)) hx hb dX4_findWorst_116 (by decide) ?_
            refine lv_icmp_eq (tgt := 148) hx hb dX4_findWorst_118 (by decide) (fun c118 => ?_) (fun c118 => ?_)
            · skip
              refine lv_aload_n hx hb dX4_findWorst_148 rfl (lv_at hl 2 rfl) ?_
              refine va_get (D := D) (ci := 4) (v := .ref m11) (C := RX4) (T := TX4) (N := 23) hx hb hts (fun _ h => List.mem_cons_of_mem _ (List.mem_append_right _ h)) hown hK.1 hP 0 rfl rfl 19 (by decide) (hts (.fieldLink RX4 40 "LieNightsModel" "sumOf" "[I") (List.mem_of_getElem? (i := 2) rfl)) (fun _ h9 => h9) rfl dX4_findWorst_149 ?_
              refine lv_iload_n hx hb dX4_findWorst_152 rfl (lv_at hl 4 rfl) ?_
              refine va_iald hx hb hK.1 hP 11 0 rfl rfl (vp_in_nI (by omega) (by decide)) dX4_findWorst_153 ?_
              refine va_iast hx hb hK.1 hP hD hS 11 0 rfl rfl (vp_in_nI (by omega) (by decide)) dX4_findWorst_154 (fun H locs hP hD hS => ?_)
              have hP : va_P D vwCl (wMo cI h m1 m2 m3 m4 m5 m6 m7 m8 m9 m10 m11 m12 m13 lf tr an pn gr ax ra rp rg rd so sl ces kd pl wt xk xp xw (upd wwo_39 ((nI (k16 + 1)).toNatClampNeg) (wwo_39 (nI (k16 + 1)).toNatClampNeg)) (upd wsu_39 ((nI (k16 + 1)).toNatClampNeg) (wsu_39 (nI (k16 + 1)).toNatClampNeg)) ask shw) H := hP
              have hD : va_D A (wMo cI h m1 m2 m3 m4 m5 m6 m7 m8 m9 m10 m11 m12 m13 lf tr an pn gr ax ra rp rg rd so sl ces kd pl wt xk xp xw (upd wwo_39 ((nI (k16 + 1)).toNatClampNeg) (wwo_39 (nI (k16 + 1)).toNatClampNeg)) (upd wsu_39 ((nI (k16 + 1)).toNatClampNeg) (wsu_39 (nI (k16 + 1)).toNatClampNeg)) ask shw) := hD
              refine lv_iinc (v := (nI (k39 + 1))) (lv' := [(3, .int (nI (k39 + 1))), (5, .int (fX4_sumBy kd pl wsu_39 N (k16 + 1) (nI k39) (nI (k16 + 1)))), (4, .int (fX4_worstBy kd pl wwo_39 N (nI k39) (nI (k16 + 1)))), (0, .ref h), (1, .int mo), (2, .int (nI (k16 + 1)))]) hx hb dX4_findWorst_155 hl (k := 5) rfl (nI_1 (k39)) (by decide) rfl (fun ls hl => ?_)
              refine lv_goto (tgt := 39) hx hb dX4_findWorst_158 (by decide) ?_
              have hR15 : sX4_findWorst_39 kd pl N k16 k39 wwo_39 wsu_39 = ((upd wwo_39 ((nI (k16 + 1)).toNatClampNeg) (wwo_39 (nI (k16 + 1)).toNatClampNeg)), (upd wsu_39 ((nI (k16 + 1)).toNatClampNeg) (wsu_39 (nI (k16 + 1)).toNatClampNeg))) := (by unfold sX4_findWorst_39; rw [if_neg c72, if_neg c83, if_pos c94, if_pos c118])
              exact ih39 (k39 + 1) hlt39 (by omega) _ _ (lp_next hacc39 hR15)  _ _ hP hD hS ls (lv_sub hl [3, 4, 5, 0] rfl)
            refine lv_aload_n hx hb dX4_findWorst_121 rfl (lv_at hl 2 rfl) ?_
            refine va_get (D := D) (ci := 4) (v := .ref m11) (C := RX4) (T := TX4) (N := 23) hx hb hts (fun _ h => List.mem_cons_of_mem _ (List.mem_append_right _ h)) hown hK.1 hP 0 rfl rfl 19 (by decide) (hts (.fieldLink RX4 40 "LieNightsModel" "sumOf" "[I") (List.mem_of_getElem? (i := 2) rfl)) (fun _ h9 => h9) rfl dX4_findWorst_122 ?_
            refine lv_iload_n hx hb dX4_findWorst_125 rfl (lv_at hl 4 rfl) ?_
            refine va_iald hx hb hK.1 hP 11 0 rfl rfl (vp_in_nI (by omega) (by decide)) dX4_findWorst_126 ?_
            refine lv_bipush (v := (-9)) hx hb dX4_findWorst_127 (by decide) ?_
            refine lv_icmp_eq (tgt := 143) hx hb dX4_findWorst_129 (by decide) (fun c129 => ?_) (fun c129 => ?_)
            · skip
              refine lv_iload hx hb dX4_findWorst_143 (lv_at hl 0 rfl) ?_
              refine lv_goto (tgt := 154) hx hb dX4_findWorst_145 (by decide) ?_
              refine va_iast hx hb hK.1 hP hD hS 11 0 rfl rfl (vp_in_nI (by omega) (by decide)) dX4_findWorst_154 (fun H locs hP hD hS => ?_)
              have hP : va_P D vwCl (wMo cI h m1 m2 m3 m4 m5 m6 m7 m8 m9 m10 m11 m12 m13 lf tr an pn gr ax ra rp rg rd so sl ces kd pl wt xk xp xw (upd wwo_39 ((nI (k16 + 1)).toNatClampNeg) (wwo_39 (nI (k16 + 1)).toNatClampNeg)) (upd wsu_39 ((nI (k16 + 1)).toNatClampNeg) (fX4_sumBy kd pl wsu_39 N (k16 + 1) (nI k39) (nI (k16 + 1)))) ask shw) H := hP
              have hD : va_D A (wMo cI h m1 m2 m3 m4 m5 m6 m7 m8 m9 m10 m11 m12 m13 lf tr an pn gr ax ra rp rg rd so sl ces kd pl wt xk xp xw (upd wwo_39 ((nI (k16 + 1)).toNatClampNeg) (wwo_39 (nI (k16 + 1)).toNatClampNeg)) (upd wsu_39 ((nI (k16 + 1)).toNatClampNeg) (fX4_sumBy kd pl wsu_39 N (k16 + 1) (nI k39) (nI (k16 + 1)))) ask shw) := hD
              refine lv_iinc (v := (nI (k39 + 1))) (lv' := [(3, .int (nI (k39 + 1))), (5, .int (fX4_sumBy kd pl wsu_39 N (k16 + 1) (nI k39) (nI (k16 + 1)))), (4, .int (fX4_worstBy kd pl wwo_39 N (nI k39) (nI (k16 + 1)))), (0, .ref h), (1, .int mo), (2, .int (nI (k16 + 1)))]) hx hb dX4_findWorst_155 hl (k := 5) rfl (nI_1 (k39)) (by decide) rfl (fun ls hl => ?_)
              refine lv_goto (tgt := 39) hx hb dX4_findWorst_158 (by decide) ?_
              have hR16 : sX4_findWorst_39 kd pl N k16 k39 wwo_39 wsu_39 = ((upd wwo_39 ((nI (k16 + 1)).toNatClampNeg) (wwo_39 (nI (k16 + 1)).toNatClampNeg)), (upd wsu_39 ((nI (k16 + 1)).toNatClampNeg) (fX4_sumBy kd pl wsu_39 N (k16 + 1) (nI k39) (nI (k16 + 1))))) := (by unfold sX4_findWorst_39; rw [if_neg c72, if_neg c83, if_pos c94, if_neg c118, if_pos c129])
              exact ih39 (k39 + 1) hlt39 (by omega) _ _ (lp_next hacc39 hR16)  _ _ hP hD hS ls (lv_sub hl [3, 4, 5, 0] rfl)
            refine lv_iload hx hb dX4_findWorst_132 (lv_at hl 0 rfl) ?_
            refine lv_aload_n hx hb dX4_findWorst_134 rfl (lv_at hl 2 rfl) ?_
            refine va_get (D := D) (ci := 4) (v := .ref m11) (C := RX4) (T := TX4) (N := 23) hx hb hts (fun _ h => List.mem_cons_of_mem _ (List.mem_append_right _ h)) hown hK.1 hP 0 rfl rfl 19 (by decide) (hts (.fieldLink RX4 40 "LieNightsModel" "sumOf" "[I") (List.mem_of_getElem? (i := 2) rfl)) (fun _ h9 => h9) rfl dX4_findWorst_135 ?_
            refine lv_iload_n hx hb dX4_findWorst_138 rfl (lv_at hl 4 rfl) ?_
            refine va_iald hx hb hK.1 hP 11 0 rfl rfl (vp_in_nI (by omega) (by decide)) dX4_findWorst_139 ?_
            refine lv_icmp_ge (tgt := 148) hx hb dX4_findWorst_140 (by decide) (fun c140 => ?_) (fun c140 => ?_)
            · skip
              refine lv_aload_n hx hb dX4_findWorst_148 rfl (lv_at hl 2 rfl) ?_
              refine va_get (D := D) (ci := 4) (v := .ref m11) (C := RX4) (T := TX4) (N := 23) hx hb hts (fun _ h => List.mem_cons_of_mem _ (List.mem_append_right _ h)) hown hK.1 hP 0 rfl rfl 19 (by decide) (hts (.fieldLink RX4 40 "LieNightsModel" "sumOf" "[I") (List.mem_of_getElem? (i := 2) rfl)) (fun _ h9 => h9) rfl dX4_findWorst_149 ?_
              refine lv_iload_n hx hb dX4_findWorst_152 rfl (lv_at hl 4 rfl) ?_
              refine va_iald hx hb hK.1 hP 11 0 rfl rfl (vp_in_nI (by omega) (by decide)) dX4_findWorst_153 ?_
              refine va_iast hx hb hK.1 hP hD hS 11 0 rfl rfl (vp_in_nI (by omega) (by decide)) dX4_findWorst_154 (fun H locs hP hD hS => ?_)
              have hP : va_P D vwCl (wMo cI h m1 m2 m3 m4 m5 m6 m7 m8 m9 m10 m11 m12 m13 lf tr an pn gr ax ra rp rg rd so sl ces kd pl wt xk xp xw (upd wwo_39 ((nI (k16 + 1)).toNatClampNeg) (wwo_39 (nI (k16 + 1)).toNatClampNeg)) (upd wsu_39 ((nI (k16 + 1)).toNatClampNeg) (wsu_39 (nI (k16 + 1)).toNatClampNeg)) ask shw) H := hP
              have hD : va_D A (wMo cI h m1 m2 m3 m4 m5 m6 m7 m8 m9 m10 m11 m12 m13 lf tr an pn gr ax ra rp rg rd so sl ces kd pl wt xk xp xw (upd wwo_39 ((nI (k16 + 1)).toNatClampNeg) (wwo_39 (nI (k16 + 1)).toNatClampNeg)) (upd wsu_39 ((nI (k16 + 1)).toNatClampNeg) (wsu_39 (nI (k16 + 1)).toNatClampNeg)) ask shw) := hD
              refine lv_iinc (v := (nI (k39 + 1))) (lv' := [(3, .int (nI (k39 + 1))), (5, .int (fX4_sumBy kd pl wsu_39 N (k16 + 1) (nI k39) (nI (k16 + 1)))), (4, .int (fX4_worstBy kd pl wwo_39 N (nI k39) (nI (k16 + 1)))), (0, .ref h), (1, .int mo), (2, .int (nI (k16 + 1)))]) hx hb dX4_findWorst_155 hl (k := 5) rfl (nI_1 (k39)) (by decide) rfl (fun ls hl => ?_)
              refine lv_goto (tgt := 39) hx hb dX4_findWorst_158 (by decide) ?_
              have hR17 : sX4_findWorst_39 kd pl N k16 k39 wwo_39 wsu_39 = ((upd wwo_39 ((nI (k16 + 1)).toNatClampNeg) (wwo_39 (nI (k16 + 1)).toNatClampNeg)), (upd wsu_39 ((nI (k16 + 1)).toNatClampNeg) (wsu_39 (nI (k16 + 1)).toNatClampNeg))) := (by unfold sX4_findWorst_39; rw [if_neg c72, if_neg c83, if_pos c94, if_neg c118, if_neg c129, if_pos c140])
              exact ih39 (k39 + 1) hlt39 (by omega) _ _ (lp_next hacc39 hR17)  _ _ hP hD hS ls (lv_sub hl [3, 4, 5, 0] rfl)
            refine lv_iload hx hb dX4_findWorst_143 (lv_at hl 0 rfl) ?_
            refine lv_goto (tgt := 154) hx hb dX4_findWorst_145 (by decide) ?_
            refine va_iast hx hb hK.1 hP hD hS 11 0 rfl rfl (vp_in_nI (by omega) (by decide)) dX4_findWorst_154 (fun H locs hP hD hS => ?_)
            have hP : va_P D vwCl (wMo cI h m1 m2 m3 m4 m5 m6 m7 m8 m9 m10 m11 m12 m13 lf tr an pn gr ax ra rp rg rd so sl ces kd pl wt xk xp xw (upd wwo_39 ((nI (k16 + 1)).toNatClampNeg) (wwo_39 (nI (k16 + 1)).toNatClampNeg)) (upd wsu_39 ((nI (k16 + 1)).toNatClampNeg) (fX4_sumBy kd pl wsu_39 N (k16 + 1) (nI k39) (nI (k16 + 1)))) ask shw) H := hP
            have hD : va_D A (wMo cI h m1 m2 m3 m4 m5 m6 m7 m8 m9 m10 m11 m12 m13 lf tr an pn gr ax ra rp rg rd so sl ces kd pl wt xk xp xw (upd wwo_39 ((nI (k16 + 1)).toNatClampNeg) (wwo_39 (nI (k16 + 1)).toNatClampNeg)) (upd wsu_39 ((nI (k16 + 1)).toNatClampNeg) (fX4_sumBy kd pl wsu_39 N (k16 + 1) (nI k39) (nI (k16 + 1)))) ask shw) := hD
            refine lv_iinc (v := (nI (k39 + 1))) (lv' := [(3, .int (nI (k39 + 1))), (5, .int (fX4_sumBy kd pl wsu_39 N (k16 + 1) (nI k39) (nI (k16 + 1)))), (4, .int (fX4_worstBy kd pl wwo_39 N (nI k39) (nI (k16 + 1)))), (0, .ref h), (1, .int mo), (2, .int (nI (k16 + 1)))]) hx hb dX4_findWorst_155 hl (k := 5) rfl (nI_1 (k39)) (by decide) rfl (fun ls hl => ?_)
            refine lv_goto (tgt := 39) hx hb dX4_findWorst_158 (by decide) ?_
            have hR18 : sX4_findWorst_39 kd pl N k16 k39 wwo_39 wsu_39 = ((upd wwo_39 ((nI (k16 + 1)).toNatClampNeg) (wwo_39 (nI (k16 + 1)).toNatClampNeg)), (upd wsu_39 ((nI (k16 + 1)).toNatClampNeg) (fX4_sumBy kd pl wsu_39 N (k16 + 1) (nI k39) (nI (k16 + 1))))) := (by unfold sX4_findWorst_39; rw [if_neg c72, if_neg c83, if_pos c94, if_neg c118, if_neg c129, if_neg c140])
            exact ih39 (k39 + 1) hlt39 (by omega) _ _ (lp_next hacc39 hR18)  _ _ hP hD hS ls (lv_sub hl [3, 4, 5, 0] rfl)
          refine lv_iload hx hb dX4_findWorst_97 (lv_at hl 1 rfl) ?_
          refine lv_goto (tgt := 108) hx hb dX4_findWorst_99 (by decide) ?_
          refine va_iast hx hb hK.1 hP hD hS 10 0 rfl rfl (vp_in_nI (by omega) (by decide)) dX4_findWorst_108 (fun H locs hP hD hS => ?_)
          have hP : va_P D vwCl (wMo cI h m1 m2 m3 m4 m5 m6 m7 m8 m9 m10 m11 m12 m13 lf tr an pn gr ax ra rp rg rd so sl ces kd pl wt xk xp xw (upd wwo_39 ((nI (k16 + 1)).toNatClampNeg) (fX4_worstBy kd pl wwo_39 N (nI k39) (nI (k16 + 1)))) wsu_39 ask shw) H := hP
          have hD : va_D A (wMo cI h m1 m2 m3 m4 m5 m6 m7 m8 m9 m10 m11 m12 m13 lf tr an pn gr ax ra rp rg rd so sl ces kd pl wt xk xp xw (upd wwo_39 ((nI (k16 + 1)).toNatClampNeg) (fX4_worstBy kd pl wwo_39 N (nI k39) (nI (k16 + 1)))) wsu_39 ask shw) := hD
          refine lv_aload_n hx hb dX4_findWorst_109 rfl (lv_at hl 2 rfl) ?_
          refine va_get (D := D) (ci := 4) (v := .ref m11) (C := RX4) (T := TX4) (N := 23) hx hb hts (fun _ h => List.mem_cons_of_mem _ (List.mem_append_right _ h)) hown hK.1 hP 0 rfl rfl 19 (by decide) (hts (.fieldLink RX4 40 "LieNightsModel" "sumOf" "[I") (List.mem_of_getElem? (i := 2) rfl)) (fun _ h9 => h9) rfl dX4_findWorst_110 ?_
          refine lv_iload_n hx hb dX4_findWorst_113 rfl (lv_at hl 4 rfl) ?_
          refine lv_iload hx hb dX4_findWorst_114 (lv_at hl 0 rfl) ?_
          refine lv_bipush (v := (-9)) hx hb dX4_findWorst_116 (by decide) ?_
          refine lv_icmp_eq (tgt := 148) hx hb dX4_findWorst_118 (by decide) (fun c118 => ?_) (fun c118 => ?_)
          · skip
            refine lv_aload_n hx hb dX4_findWorst_148 rfl (lv_at hl 2 rfl) ?_
            refine va_get (D := D) (ci := 4) (v := .ref m11) (C := RX4) (T := TX4) (N := 23) hx hb hts (fun _ h => List.mem_cons_of_mem _ (List.mem_append_right _ h)) hown hK.1 hP 0 rfl rfl 19 (by decide) (hts (.fieldLink RX4 40 "LieNightsModel" "sumOf" "[I") (List.mem_of_getElem? (i := 2) rfl)) (fun _ h9 => h9) rfl dX4_findWorst_149 ?_
            refine lv_iload_n hx hb dX4_findWorst_152 rfl (lv_at hl 4 rfl) ?_
            refine va_iald hx hb hK.1 hP 11 0 rfl rfl (vp_in_nI (by omega) (by decide)) dX4_findWorst_153 ?_
            refine va_iast hx hb hK.1 hP hD hS 11 0 rfl rfl (vp_in_nI (by omega) (by decide)) dX4_findWorst_154 (fun H locs hP hD hS => ?_)
            have hP : va_P D vwCl (wMo cI h m1 m2 m3 m4 m5 m6 m7 m8 m9 m10 m11 m12 m13 lf tr an pn gr ax ra rp rg rd so sl ces kd pl wt xk xp xw (upd wwo_39 ((nI (k16 + 1)).toNatClampNeg) (fX4_worstBy kd pl wwo_39 N (nI k39) (nI (k16 + 1)))) (upd wsu_39 ((nI (k16 + 1)).toNatClampNeg) (wsu_39 (nI (k16 + 1)).toNatClampNeg)) ask shw) H := hP
            have hD : va_D A (wMo cI h m1 m2 m3 m4 m5 m6 m7 m8 m9 m10 m11 m12 m13 lf tr an pn gr ax ra rp rg rd so sl ces kd pl wt xk xp xw (upd wwo_39 ((nI (k16 + 1)).toNatClampNeg) (fX4_worstBy kd pl wwo_39 N (nI k39) (nI (k16 + 1)))) (upd wsu_39 ((nI (k16 + 1)).toNatClampNeg) (wsu_39 (nI (k16 + 1)).toNatClampNeg)) ask shw) := hD
            refine lv_iinc (v := (nI (k39 + 1))) (lv' := [(3, .int (nI (k39 + 1))), (5, .int (fX4_sumBy kd pl wsu_39 N (k16 + 1) (nI k39) (nI (k16 + 1)))), (4, .int (fX4_worstBy kd pl wwo_39 N (nI k39) (nI (k16 + 1)))), (0, .ref h), (1, .int mo), (2, .int (nI (k16 + 1)))]) hx hb dX4_findWorst_155 hl (k := 5) rfl (nI_1 (k39)) (by decide) rfl (fun ls hl => ?_)
            refine lv_goto (tgt := 39) hx hb dX4_findWorst_158 (by decide) ?_
            have hR19 : sX4_findWorst_39 kd pl N k16 k39 wwo_39 wsu_39 = ((upd wwo_39 ((nI (k16 + 1)).toNatClampNeg) (fX4_worstBy kd pl wwo_39 N (nI k39) (nI (k16 + 1)))), (upd wsu_39 ((nI (k16 + 1)).toNatClampNeg) (wsu_39 (nI (k16 + 1)).toNatClampNeg))) := (by unfold sX4_findWorst_39; rw [if_neg c72, if_neg c83, if_neg c94, if_pos c118])
            exact ih39 (k39 + 1) hlt39 (by omega) _ _ (lp_next hacc39 hR19)  _ _ hP hD hS ls (lv_sub hl [3, 4, 5, 0] rfl)
          refine lv_aload_n hx hb dX4_findWorst_121 rfl (lv_at hl 2 rfl) ?_
          refine va_get (D := D) (ci := 4) (v := .ref m11) (C := RX4) (T := TX4) (N := 23) hx hb hts (fun _ h => List.mem_cons_of_mem _ (List.mem_append_right _ h)) hown hK.1 hP 0 rfl rfl 19 (by decide) (hts (.fieldLink RX4 40 "LieNightsModel" "sumOf" "[I") (List.mem_of_getElem? (i := 2) rfl)) (fun _ h9 => h9) rfl dX4_findWorst_122 ?_
          refine lv_iload_n hx hb dX4_findWorst_125 rfl (lv_at hl 4 rfl) ?_
          refine va_iald hx hb hK.1 hP 11 0 rfl rfl (vp_in_nI (by omega) (by decide)) dX4_findWorst_126 ?_
          refine lv_bipush (v := (-9)) hx hb dX4_findWorst_127 (by decide) ?_
          refine lv_icmp_eq (tgt := 143) hx hb dX4_findWorst_129 (by decide) (fun c129 => ?_) (fun c129 => ?_)
          · skip
            refine lv_iload hx hb dX4_findWorst_143 (lv_at hl 0 rfl) ?_
            refine lv_goto (tgt := 154) hx hb dX4_findWorst_145 (by decide) ?_
            refine va_iast hx hb hK.1 hP hD hS 11 0 rfl rfl (vp_in_nI (by omega) (by decide)) dX4_findWorst_154 (fun H locs hP hD hS => ?_)
            have hP : va_P D vwCl (wMo cI h m1 m2 m3 m4 m5 m6 m7 m8 m9 m10 m11 m12 m13 lf tr an pn gr ax ra rp rg rd so sl ces kd pl wt xk xp xw (upd wwo_39 ((nI (k16 + 1)).toNatClampNeg) (fX4_worstBy kd pl wwo_39 N (nI k39) (nI (k16 + 1)))) (upd wsu_39 ((nI (k16 + 1)).toNatClampNeg) (fX4_sumBy kd pl wsu_39 N (k16 + 1) (nI k39) (nI (k16 + 1)))) ask shw) H := hP
            have hD : va_D A (wMo cI h m1 m2 m3 m4 m5 m6 m7 m8 m9 m10 m11 m12 m13 lf tr an pn gr ax ra rp rg rd so sl ces kd pl wt xk xp xw (upd wwo_39 ((nI (k16 + 1)).toNatClampNeg) (fX4_worstBy kd pl wwo_39 N (nI k39) (nI (k16 + 1)))) (upd wsu_39 ((nI (k16 + 1)).toNatClampNeg) (fX4_sumBy kd pl wsu_39 N (k16 + 1) (nI k39) (nI (k16 + 1)))) ask shw) := hD
            refine lv_iinc (v := (nI (k39 + 1))) (lv' := [(3, .int (nI (k39 + 1))), (5, .int (fX4_sumBy kd pl wsu_39 N (k16 + 1) (nI k39) (nI (k16 + 1)))), (4, .int (fX4_worstBy kd pl wwo_39 N (nI k39) (nI (k16 + 1)))), (0, .ref h), (1, .int mo), (2, .int (nI (k16 + 1)))]) hx hb dX4_findWorst_155 hl (k := 5) rfl (nI_1 (k39)) (by decide) rfl (fun ls hl => ?_)
            refine lv_goto (tgt := 39) hx hb dX4_findWorst_158 (by decide) ?_
            have hR20 : sX4_findWorst_39 kd pl N k16 k39 wwo_39 wsu_39 = ((upd wwo_39 ((nI (k16 + 1)).toNatClampNeg) (fX4_worstBy kd pl wwo_39 N (nI k39) (nI (k16 + 1)))), (upd wsu_39 ((nI (k16 + 1)).toNatClampNeg) (fX4_sumBy kd pl wsu_39 N (k16 + 1) (nI k39) (nI (k16 + 1))))) := (by unfold sX4_findWorst_39; rw [if_neg c72, if_neg c83, if_neg c94, if_neg c118, if_pos c129])
            exact ih39 (k39 + 1) hlt39 (by omega) _ _ (lp_next hacc39 hR20)  _ _ hP hD hS ls (lv_sub hl [3, 4, 5, 0] rfl)
          refine lv_iload hx hb dX4_findWorst_132 (lv_at hl 0 rfl) ?_
          refine lv_aload_n hx hb dX4_findWorst_134 rfl (lv_at hl 2 rfl) ?_
          refine va_get (D := D) (ci := 4) (v := .ref m11) (C := RX4) (T := TX4) (N := 23) hx hb hts (fun _ h => List.mem_cons_of_mem _ (List.mem_append_right _ h)) hown hK.1 hP 0 rfl rfl 19 (by decide) (hts (.fieldLink RX4 40 "LieNightsModel" "sumOf" "[I") (List.mem_of_getElem? (i := 2) rfl)) (fun _ h9 => h9) rfl dX4_findWorst_135 ?_
          refine lv_iload_n hx hb dX4_findWorst_138 rfl (lv_at hl 4 rfl) ?_
          refine va_iald hx hb hK.1 hP 11 0 rfl rfl (vp_in_nI (by omega) (by decide)) dX4_findWorst_139 ?_
          refine lv_icmp_ge (tgt := 148) hx hb dX4_findWorst_140 (by decide) (fun c140 => ?_) (fun c140 => ?_)
          · skip
            refine lv_aload_n hx hb dX4_findWorst_148 rfl (lv_at hl 2 rfl) ?_
            refine va_get (D := D) (ci := 4) (v := .ref m11) (C := RX4) (T := TX4) (N := 23) hx hb hts (fun _ h => List.mem_cons_of_mem _ (List.mem_append_right _ h)) hown hK.1 hP 0 rfl rfl 19 (by decide) (hts (.fieldLink RX4 40 "LieNightsModel" "sumOf" "[I") (List.mem_of_getElem? (i := 2) rfl)) (fun _ h9 => h9) rfl dX4_findWorst_149 ?_
            refine lv_iload_n hx hb dX4_findWorst_152 rfl (lv_at hl 4 rfl) ?_
            refine va_iald hx hb hK.1 hP 11 0 rfl rfl (vp_in_nI (by omega) (by decide)) dX4_findWorst_153 ?_
            refine va_iast hx hb hK.1 hP hD hS 11 0 rfl rfl (vp_in_nI (by omega) (by decide)) dX4_findWorst_154 (fun H locs hP hD hS => ?_)
            have hP : va_P D vwCl (wMo cI h m1 m2 m3 m4 m5 m6 m7 m8 m9 m10 m11 m12 m13 lf tr an pn gr ax ra rp rg rd so sl ces kd pl wt xk xp xw (upd wwo_39 ((nI (k16 + 1)).toNatClampNeg) (fX4_worstBy kd pl wwo_39 N (nI k39) (nI (k16 + 1)))) (upd wsu_39 ((nI (k16 + 1)).toNatClampNeg) (wsu_39 (nI (k16 + 1)).toNatClampNeg)) ask shw) H := hP
            have hD : va_D A (wMo cI h m1 m2 m3 m4 m5 m6 m7 m8 m9 m10 m11 m12 m13 lf tr an pn gr ax ra rp rg rd so sl ces kd pl wt xk xp xw (upd wwo_39 ((nI (k16 + 1)).toNatClampNeg) (fX4_worstBy kd pl wwo_39 N (nI k39) (nI (k16 + 1)))) (upd wsu_39 ((nI (k16 + 1)).toNatClampNeg) (wsu_39 (nI (k16 + 1)).toNatClampNeg)) ask shw) := hD
            refine lv_iinc (v := (nI (k39 + 1))) (lv' := [(3, .int (nI (k39 + 1))), (5, .int (fX4_sumBy kd pl wsu_39 N (k16 + 1) (nI k39) (nI (k16 + 1)))), (4, .int (fX4_worstBy kd pl wwo_39 N (nI k39) (nI (k16 + 1)))), (0, .ref h), (1, .int mo), (2, .int (nI (k16 + 1)))]) hx hb dX4_findWorst_155 hl (k := 5) rfl (nI_1 (k39)) (by decide) rfl (fun ls hl => ?_)
            refine lv_goto (tgt := 39) hx hb dX4_findWorst_158 (by decide) ?_
            have hR21 : sX4_findWorst_39 kd pl N k16 k39 wwo_39 wsu_39 = ((upd wwo_39 ((nI (k16 + 1)).toNatClampNeg) (fX4_worstBy kd pl wwo_39 N (nI k39) (nI (k16 + 1)))), (upd wsu_39 ((nI (k16 + 1)).toNatClampNeg) (wsu_39 (nI (k16 + 1)).toNatClampNeg))) := (by unfold sX4_findWorst_39; rw [if_neg c72, if_neg c83, if_neg c94, if_neg c118, if_neg c129, if_pos c140])
            exact ih39 (k39 + 1) hlt39 (by omega) _ _ (lp_next hacc39 hR21)  _ _ hP hD hS ls (lv_sub hl [3, 4, 5, 0] rfl)
          refine lv_iload hx hb dX4_findWorst_143 (lv_at hl 0 rfl) ?_
          refine lv_goto (tgt := 154) hx hb dX4_findWorst_145 (by decide) ?_
          refine va_iast hx hb hK.1 hP hD hS 11 0 rfl rfl (vp_in_nI (by omega) (by decide)) dX4_findWorst_154 (fun H locs hP hD hS => ?_)
          have hP : va_P D vwCl (wMo cI h m1 m2 m3 m4 m5 m6 m7 m8 m9 m10 m11 m12 m13 lf tr an pn gr ax ra rp rg rd so sl ces kd pl wt xk xp xw (upd wwo_39 ((nI (k16 + 1)).toNatClampNeg) (fX4_worstBy kd pl wwo_39 N (nI k39) (nI (k16 + 1)))) (upd wsu_39 ((nI (k16 + 1)).toNatClampNeg) (fX4_sumBy kd pl wsu_39 N (k16 + 1) (nI k39) (nI (k16 + 1)))) ask shw) H := hP
          have hD : va_D A (wMo cI h m1 m2 m3 m4 m5 m6 m7 m8 m9 m10 m11 m12 m13 lf tr an pn gr ax ra rp rg rd so sl ces kd pl wt xk xp xw (upd wwo_39 ((nI (k16 + 1)).toNatClampNeg) (fX4_worstBy kd pl wwo_39 N (nI k39) (nI (k16 + 1)))) (upd wsu_39 ((nI (k16 + 1)).toNatClampNeg) (fX4_sumBy kd pl wsu_39 N (k16 + 1) (nI k39) (nI (k16 + 1)))) ask shw) := hD
          refine lv_iinc (v := (nI (k39 + 1))) (lv' := [(3, .int (nI (k39 + 1))), (5, .int (fX4_sumBy kd pl wsu_39 N (k16 + 1) (nI k39) (nI (k16 + 1)))), (4, .int (fX4_worstBy kd pl wwo_39 N (nI k39) (nI (k16 + 1)))), (0, .ref h), (1, .int mo), (2, .int (nI (k16 + 1)))]) hx hb dX4_findWorst_155 hl (k := 5) rfl (nI_1 (k39)) (by decide) rfl (fun ls hl => ?_)
          refine lv_goto (tgt := 39) hx hb dX4_findWorst_158 (by decide) ?_
          have hR22 : sX4_findWorst_39 kd pl N k16 k39 wwo_39 wsu_39 = ((upd wwo_39 ((nI (k16 + 1)).toNatClampNeg) (fX4_worstBy kd pl wwo_39 N (nI k39) (nI (k16 + 1)))), (upd wsu_39 ((nI (k16 + 1)).toNatClampNeg) (fX4_sumBy kd pl wsu_39 N (k16 + 1) (nI k39) (nI (k16 + 1))))) := (by unfold sX4_findWorst_39; rw [if_neg c72, if_neg c83, if_neg c94, if_neg c118, if_neg c129, if_neg c140])
          exact ih39 (k39 + 1) hlt39 (by omega) _ _ (lp_next hacc39 hR22)  _ _ hP hD hS ls (lv_sub hl [3, 4, 5, 0] rfl)
      exact loop39 (N + 1) 0 (Nat.zero_le _) (by omega) _ _ rfl  _ _ hP hD hS ls (lv_sub hl [1, 2, 3, 0] rfl)
  exact loop16 (Mo + 1) 0 (Nat.zero_le _) (by omega) _ _ rfl  _ _ hP hD hS ls (lv_sub hl [1, 2, 0] rfl)

def aX4_askOf_2 (z_2 : Unit) : Int32 := (-9)
def sX4_askOf_2 (kd pl wo : Nat → Int32) (N : Nat) (se : Int32) (k2 : Nat) (z_2 : Unit) : (Unit) ⊕ Int32 := (if se = 0 then (.inr (aX4_askOf_2  ())) else (if (fX4_worstBy kd pl wo N (nI k2) se) = (wo se.toNatClampNeg) then (.inr (nI k2)) else (.inl ())))
def fX4_askOf (kd pl wo : Nat → Int32) (N : Nat) (se : Int32) : Int32 := (lqr (lq (fun k a => sX4_askOf_2 kd pl wo N se k a) () N) (fun a => aX4_askOf_2  a))
theorem q_X4_askOf : yX4_askOf.cls = RX4 ∧ yX4_askOf.cls ≠ "java/lang/invoke/MethodHandle" ∧ yX4_askOf.cls ≠ "java/lang/invoke/VarHandle" ∧ (parseMethodDescriptor yX4_askOf.desc).map (fun d => d.parameters.length) = some 1 := by decide +kernel
set_option maxHeartbeats 4000000 in
set_option maxRecDepth 100000 in
theorem c_X4_askOf (l : Launch) (D : va_G) (cI cS : ClassId) (h m1 m2 m3 m4 m5 m6 m7 m8 m9 m10 m11 m12 m13 : Nat) (lf tr an pn gr ax ra rp rg rd : Int32) (so sl ces kd pl wt xk xp xw wo su ask shw : Nat → Int32) (N : Nat) (se : Int32) (ha : an = nI N) (hN : N ≤ 6) (hs64 : vp_in se 64) : PMi l yX4_askOf wsX4_askOf { frames := 3, cells := 0, slots := 0, locals := 73 } D cI cS (wMo cI h m1 m2 m3 m4 m5 m6 m7 m8 m9 m10 m11 m12 m13 lf tr an pn gr ax ra rp rg rd so sl ces kd pl wt xk xp xw wo su ask shw) [.ref h, .int se] (fX4_askOf kd pl wo N se) := by
  refine kEnter (cc := cX4_askOf) (maxL := 3) (ret := (some .int)) (by decide) rfl (Nat.le_of_ble_eq_true rfl) ?_
  intro p e s m below meth c ls Qf hQ hx hb hml hr hlocks hown hts hK hP hl
  have hown : s.vm.findClass RX4 = some m.cls := hown
  have hl : lv_has ls 3 [(0, .ref h), (1, .int se)] := hl
  refine lv_iconst (v := 0) hx hb dX4_askOf_0 (by decide) ?_
  refine lv_istore_n (lv' := [(2, .int 0), (0, .ref h), (1, .int se)]) hx hb dX4_askOf_1 rfl hl (by decide) rfl (fun ls hl => ?_)
  have hR1 : (fX4_askOf kd pl wo N se) = (lqr (lq (fun k a => sX4_askOf_2 kd pl wo N se k a) () N) (fun a => aX4_askOf_2  a)) := rfl
  have aft2 : ∀ (z_2 : Unit), (fX4_askOf kd pl wo N se) = aX4_askOf_2  z_2 →  ∀ (ls : Array Slot), lv_has ls 3 [(0, .ref h), (1, .int se)] → W p l e { frames := 3, cells := 0, slots := 0, locals := 73 } s m ([.ref h, .int se] : List Value).toArray below meth c s.heap [] 0 0 Qf (F0 m 37 ls []) := by
    intro z_2 hRa2  ls hl
    refine lv_bipush (v := (-9)) hx hb dX4_askOf_37 (by decide) ?_
    have hR2 : (fX4_askOf kd pl wo N se) = (-9) := hRa2.trans rfl
    rw [hQ]
    exact W.iret (v := (-9)) hx hb hr (fun t ht hW => ⟨_, rfl, hR2.symm, ht⟩) (fun q h => by cases h) dX4_askOf_39
  have loop2 : ∀ (n k2 : Nat), k2 ≤ N → N + 1 ≤ k2 + n → ∀ (z_2 : Unit), lq (fun k a => sX4_askOf_2 kd pl wo N se k a) () k2 = Sum.inl z_2 →  ∀ (ls : Array Slot), lv_has ls 3 [(0, .ref h), (1, .int se), (2, .int (nI k2))] → W p l e { frames := 3, cells := 0, slots := 0, locals := 73 } s m ([.ref h, .int se] : List Value).toArray below meth c s.heap [] 0 0 Qf (F0 m 2 ls []) := by
    intro n
    induction n with
    | zero => intro k2 h1 h2; exact absurd h2 (by omega)
    | succ n ih =>
      intro k2 hk2 hn2 z_2 hacc2  ls hl
      have ih2 := ih
      refine lv_iload_n hx hb dX4_askOf_2 rfl (lv_at hl 2 rfl) ?_
      refine lv_aload_n hx hb dX4_askOf_3 rfl (lv_at hl 0 rfl) ?_
      refine va_get (D := D) (ci := 4) (v := .int an) (C := RX4) (T := TX4) (N := 23) hx hb hts (fun _ h => List.mem_cons_of_mem _ (List.mem_append_right _ h)) hown hK.1 hP 0 rfl rfl 5 (by decide) (hts (.fieldLink RX4 59 "LieNightsModel" "answers" "I") (List.mem_of_getElem? (i := 1) rfl)) (fun _ h9 => h9) rfl dX4_askOf_4 ?_
      refine lv_icmp_ge (tgt := 37) hx hb dX4_askOf_7 (by decide) (fun c7 => ?_) (fun c7 => ?_)
      · skip
        have hkN : k2 = N := (kEnd hk2 rfl ha (by omega) c7)
        rw [hkN] at hacc2
        have hR3 : (fX4_askOf kd pl wo N se) = aX4_askOf_2  z_2 := hR1.trans (lq_end (x := z_2) (g := (fun a => aX4_askOf_2  a)) hacc2)
        exact aft2 _ hR3  ls (lv_sub hl [0, 1] rfl)
      have hlt2 : k2 < N := (kLt hk2 rfl ha c7)
      refine lv_iload_n hx hb dX4_askOf_10 rfl (lv_at hl 1 rfl) ?_
      refine lv_if_eq (tgt := 37) hx hb dX4_askOf_11 (by decide) (fun c11 => ?_) (fun c11 => ?_)
      · skip
        have hR4 : sX4_askOf_2 kd pl wo N se k2 z_2 = (.inr (aX4_askOf_2  ())) := (by unfold sX4_askOf_2; rw [if_pos c11])
        have hR5 : (fX4_askOf kd pl wo N se) = aX4_askOf_2  () := hR1.trans (lq_exit hacc2 hR4 hlt2)
        exact aft2 _ hR5  ls (lv_sub hl [0, 1] rfl)
      refine lv_aload_n hx hb dX4_askOf_14 rfl (lv_at hl 0 rfl) ?_
      refine lv_iload_n hx hb dX4_askOf_15 rfl (lv_at hl 2 rfl) ?_
      refine lv_iload_n hx hb dX4_askOf_16 rfl (lv_at hl 1 rfl) ?_
      refine kPi (va_runV (As := [.int (nI k2), .int se]) (rest := []) ⟨hx, hb, hml, hown, hts⟩ (c_X4_worstBy l D cI cS h m1 m2 m3 m4 m5 m6 m7 m8 m9 m10 m11 m12 m13 lf tr an pn gr ax ra rp rg rd so sl ces kd pl wt xk xp xw wo su ask shw N (nI k2) se ha hN (vp_in_nI (by omega) (by decide))) (cwV 2 hts gX4_askOf_X4_worstBy rfl rfl rfl q_X4_worstBy ⟨Nat.le_of_ble_eq_true rfl, Nat.le_of_ble_eq_true rfl⟩) (kPV hK hP [0, 1, 2, 3, 4, 5, 6, 7, 8, 9, 10, 11, 12, 13] rfl (va_recv hK.1 hP (ci := 4) (q0 := 0) rfl rfl) [.int (nI k2), .int se]) rfl rfl hl.1 rfl (lv_room (Nat.le_of_ble_eq_true rfl)) dX4_askOf_17 ⟨Nat.zero_le _, Nat.zero_le _⟩) ?_
      refine lv_aload_n hx hb dX4_askOf_20 rfl (lv_at hl 0 rfl) ?_
      refine va_get (D := D) (ci := 4) (v := .ref m10) (C := RX4) (T := TX4) (N := 23) hx hb hts (fun _ h => List.mem_cons_of_mem _ (List.mem_append_right _ h)) hown hK.1 hP 0 rfl rfl 18 (by decide) (hts (.fieldLink RX4 37 "LieNightsModel" "worstOf" "[I") (List.mem_of_getElem? (i := 2) rfl)) (fun _ h9 => h9) rfl dX4_askOf_21 ?_
      refine lv_iload_n hx hb dX4_askOf_24 rfl (lv_at hl 1 rfl) ?_
      refine va_iald hx hb hK.1 hP 10 0 rfl rfl hs64 dX4_askOf_25 ?_
      refine lv_icmp_ne (tgt := 31) hx hb dX4_askOf_26 (by decide) (fun c26 => ?_) (fun c26 => ?_)
      · skip
        refine lv_iinc (v := (nI (k2 + 1))) (lv' := [(2, .int (nI (k2 + 1))), (0, .ref h), (1, .int se)]) hx hb dX4_askOf_31 hl (k := 2) rfl (nI_1 (k2)) (by decide) rfl (fun ls hl => ?_)
        refine lv_goto (tgt := 2) hx hb dX4_askOf_34 (by decide) ?_
        have hR6 : sX4_askOf_2 kd pl wo N se k2 z_2 = (.inl ()) := (by unfold sX4_askOf_2; rw [if_neg c11, if_neg c26])
        exact ih2 (k2 + 1) hlt2 (by omega) _ (lq_next hacc2 hR6)  ls (lv_sub hl [1, 2, 0] rfl)
      refine lv_iload_n hx hb dX4_askOf_29 rfl (lv_at hl 2 rfl) ?_
      have hR7 : sX4_askOf_2 kd pl wo N se k2 z_2 = (.inr (nI k2)) := (by unfold sX4_askOf_2; rw [if_neg c11, if_pos c26])
      have hR8 : (fX4_askOf kd pl wo N se) = (nI k2) := hR1.trans (lq_exit hacc2 hR7 hlt2)
      rw [hQ]
      exact W.iret (v := (nI k2)) hx hb hr (fun t ht hW => ⟨_, rfl, hR8.symm, ht⟩) (fun q h => by cases h) dX4_askOf_30
  exact loop2 (N + 1) 0 (Nat.zero_le _) (by omega) _ rfl  ls (lv_sub hl [1, 2, 0] rfl)
