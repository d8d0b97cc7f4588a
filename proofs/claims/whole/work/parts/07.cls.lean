theorem q_X3_faulted : yX3_faulted.cls = RX3 ∧ yX3_faulted.cls ≠ "java/lang/invoke/MethodHandle" ∧ yX3_faulted.cls ≠ "java/lang/invoke/VarHandle" ∧ (parseMethodDescriptor yX3_faulted.desc).map (fun d => d.parameters.length) = some 1 := by decide +kernel
set_option maxHeartbeats 4000000 in
set_option maxRecDepth 100000 in
theorem c_X3_faulted (l : Launch) (D : va_G) (cI cS : ClassId) (h sa p0 aa ab cu sp : Nat) (old rd tr lf wc : Int32)  : MMi l yX3_faulted wsX3_faulted { frames := 0, cells := 0, slots := 0, locals := 0 } D cI cS (wL1 cI h sa p0 aa ab cu sp old rd tr lf) [.ref h, .int wc] ((-10) - wc) (wL1 cI h sa p0 aa ab cu sp old rd tr wc) := by
  refine kEnterM (cc := cX3_faulted) (maxL := 2) (ret := (some .int)) (by decide) rfl (Nat.le_of_ble_eq_true rfl) ?_
  intro p e s m below meth c ls Qf hQ hx hb hml hr hlocks hown hts hK hP hD hS hl
  have hown : s.vm.findClass RX3 = some m.cls := hown
  have hl : lv_has ls 2 [(0, .ref h), (1, .int wc)] := hl
  generalize kA (wL1 cI h sa p0 aa ab cu sp old rd tr lf) = A at hQ hD hS
  refine lv_aload_n hx hb dX3_faulted_0 rfl (lv_at hl 0 rfl) ?_
  refine lv_iload_n hx hb dX3_faulted_1 rfl (lv_at hl 1 rfl) ?_
  refine va_put (D := D) (ci := 3) (v := .int wc) (ty := tyX3 9) (C := RX3) (T := TX3) (N := 10) hx hb hts (fun _ h => List.mem_cons_of_mem _ (List.mem_append_right _ h)) tyX3 tyX3_ok nmX3 hown hK.1 hP hD hS 0 rfl rfl 9 (by decide) (hts (.fieldLink RX3 45 "LieNights" "lastFault" "I") (List.mem_of_getElem? (i := 1) rfl)) (fun _ h9 => h9) rfl (tyX3_ok 9 (by decide)) rfl rfl (Nat.le_of_ble_eq_true rfl) dX3_faulted_2 (fun H locs hP hD hS => ?_)
  have hP : va_P D vwCl (wL1 cI h sa p0 aa ab cu sp old rd tr wc) H := hP
  have hD : va_D A (wL1 cI h sa p0 aa ab cu sp old rd tr wc) := hD
  refine lv_bipush (v := (-10)) hx hb dX3_faulted_5 (by decide) ?_
  refine lv_iload_n hx hb dX3_faulted_7 rfl (lv_at hl 1 rfl) ?_
  refine lv_isub hx hb dX3_faulted_8 ?_
  rw [hQ]
  exact W.iret (v := ((-10) - wc)) hx hb hr (fun t ht hW => ⟨⟨_, (), rfl, rfl, (by show va_P D vwCl _ t.heap; rw [ht]; exact hP)⟩, hS.F ht⟩) hS.2.2 dX3_faulted_9

theorem q_X3_leave : yX3_leave.cls = RX3 ∧ yX3_leave.cls ≠ "java/lang/invoke/MethodHandle" ∧ yX3_leave.cls ≠ "java/lang/invoke/VarHandle" ∧ (parseMethodDescriptor yX3_leave.desc).map (fun d => d.parameters.length) = some 1 := by decide +kernel
set_option maxHeartbeats 4000000 in
set_option maxRecDepth 100000 in
theorem c_X3_leave (l : Launch) (D : va_G) (cI cS : ClassId) (h sa p0 aa ab cu sp : Nat) (old rd tr lf nu : Int32)  : MMv l yX3_leave wsX3_leave { frames := 0, cells := 0, slots := 0, locals := 0 } D cI cS (wL1 cI h sa p0 aa ab cu sp old rd tr lf) [.ref h, .int nu] (wL1 cI h sa p0 aa ab cu sp old rd ((31 * tr) + nu) lf) := by
  refine kEnterM (cc := cX3_leave) (maxL := 2) (ret := none) (by decide) rfl (Nat.le_of_ble_eq_true rfl) ?_
  intro p e s m below meth c ls Qf hQ hx hb hml hr hlocks hown hts hK hP hD hS hl
  have hown : s.vm.findClass RX3 = some m.cls := hown
  have hl : lv_has ls 2 [(0, .ref h), (1, .int nu)] := hl
  generalize kA (wL1 cI h sa p0 aa ab cu sp old rd tr lf) = A at hQ hD hS
  refine lv_aload_n hx hb dX3_leave_0 rfl (lv_at hl 0 rfl) ?_
  refine lv_bipush (v := 31) hx hb dX3_leave_1 (by decide) ?_
  refine lv_aload_n hx hb dX3_leave_3 rfl (lv_at hl 0 rfl) ?_
  refine va_get (D := D) (ci := 3) (v := .int tr) (C := RX3) (T := TX3) (N := 10) hx hb hts (fun _ h => List.mem_cons_of_mem _ (List.mem_append_right _ h)) hown hK.1 hP 0 rfl rfl 8 (by decide) (hts (.fieldLink RX3 213 "LieNights" "trace" "I") (List.mem_of_getElem? (i := 1) rfl)) (fun _ h9 => h9) rfl dX3_leave_4 ?_
  refine lv_imul hx hb dX3_leave_7 ?_
  refine lv_iload_n hx hb dX3_leave_8 rfl (lv_at hl 1 rfl) ?_
  refine lv_iadd hx hb dX3_leave_9 ?_
  refine va_put (D := D) (ci := 3) (v := .int ((31 * tr) + nu)) (ty := tyX3 8) (C := RX3) (T := TX3) (N := 10) hx hb hts (fun _ h => List.mem_cons_of_mem _ (List.mem_append_right _ h)) tyX3 tyX3_ok nmX3 hown hK.1 hP hD hS 0 rfl rfl 8 (by decide) (hts (.fieldLink RX3 213 "LieNights" "trace" "I") (List.mem_of_getElem? (i := 1) rfl)) (fun _ h9 => h9) rfl (tyX3_ok 8 (by decide)) rfl rfl (Nat.le_of_ble_eq_true rfl) dX3_leave_10 (fun H locs hP hD hS => ?_)
  have hP : va_P D vwCl (wL1 cI h sa p0 aa ab cu sp old rd ((31 * tr) + nu) lf) H := hP
  have hD : va_D A (wL1 cI h sa p0 aa ab cu sp old rd ((31 * tr) + nu) lf) := hD
  rw [hQ]
  exact W.vret hx hb hr (fun t ht hW => ⟨⟨(), rfl, trivial, (by show va_P D vwCl _ t.heap; rw [ht]; exact hP)⟩, hS.F ht⟩) hS.2.2 dX3_leave_13

theorem q_X3_takeSpare : yX3_takeSpare.cls = RX3 ∧ yX3_takeSpare.cls ≠ "java/lang/invoke/MethodHandle" ∧ yX3_takeSpare.cls ≠ "java/lang/invoke/VarHandle" ∧ (parseMethodDescriptor yX3_takeSpare.desc).map (fun d => d.parameters.length) = some 0 := by decide +kernel
set_option maxHeartbeats 4000000 in
set_option maxRecDepth 100000 in
theorem c_X3_takeSpare (l : Launch) (D : va_G) (cI cS : ClassId) (h sa p0 aa ab cu sp : Nat) (old rd tr lf : Int32)  : MMv l yX3_takeSpare wsX3_takeSpare { frames := 0, cells := 0, slots := 0, locals := 0 } D cI cS (wL1 cI h sa p0 aa ab cu sp old rd tr lf) [.ref h] (wL1 cI h sa p0 aa ab sp cu 1 0 tr lf) := by
  refine kEnterM (cc := cX3_takeSpare) (maxL := 2) (ret := none) (by decide) rfl (Nat.le_of_ble_eq_true rfl) ?_
  intro p e s m below meth c ls Qf hQ hx hb hml hr hlocks hown hts hK hP hD hS hl
  have hown : s.vm.findClass RX3 = some m.cls := hown
  have hl : lv_has ls 2 [(0, .ref h)] := hl
  generalize kA (wL1 cI h sa p0 aa ab cu sp old rd tr lf) = A at hQ hD hS
  refine lv_aload_n hx hb dX3_takeSpare_0 rfl (lv_at hl 0 rfl) ?_
  refine va_get (D := D) (ci := 3) (v := .ref cu) (C := RX3) (T := TX3) (N := 10) hx hb hts (fun _ h => List.mem_cons_of_mem _ (List.mem_append_right _ h)) hown hK.1 hP 0 rfl rfl 4 (by decide) (hts (.fieldLink RX3 34 "LieNights" "secret" "LLieNights$Secret;") (List.mem_of_getElem? (i := 1) rfl)) (fun _ h9 => h9) rfl dX3_takeSpare_1 ?_
  refine lv_astore_n (lv' := [(1, .ref cu), (0, .ref h)]) hx hb dX3_takeSpare_4 rfl hl (by decide) rfl (fun ls hl => ?_)
  refine lv_aload_n hx hb dX3_takeSpare_5 rfl (lv_at hl 1 rfl) ?_
  refine lv_aload_n hx hb dX3_takeSpare_6 rfl (lv_at hl 1 rfl) ?_
  refine va_get (D := D) (ci := 3) (v := .ref sp) (C := RX3) (T := TX3) (N := 10) hx hb hts (fun _ h => List.mem_cons_of_mem _ (List.mem_append_right _ h)) hown hK.1 hP 0 rfl rfl 5 (by decide) (hts (.fieldLink RX3 38 "LieNights" "spare" "LLieNights$Secret;") (List.mem_of_getElem? (i := 2) rfl)) (fun _ h9 => h9) rfl dX3_takeSpare_7 ?_
  refine va_put (D := D) (ci := 3) (v := .ref sp) (ty := tyX3 4) (C := RX3) (T := TX3) (N := 10) hx hb hts (fun _ h => List.mem_cons_of_mem _ (List.mem_append_right _ h)) tyX3 tyX3_ok nmX3 hown hK.1 hP hD hS 0 rfl rfl 4 (by decide) (hts (.fieldLink RX3 34 "LieNights" "secret" "LLieNights$Secret;") (List.mem_of_getElem? (i := 1) rfl)) (fun _ h9 => h9) rfl (tyX3_ok 4 (by decide)) rfl rfl (Nat.le_of_ble_eq_true rfl) dX3_takeSpare_10 (fun H locs hP hD hS => ?_)
  have hP : va_P D vwCl (wL1 cI h sa p0 aa ab sp sp old rd tr lf) H := hP
  have hD : va_D A (wL1 cI h sa p0 aa ab sp sp old rd tr lf) := hD
  refine lv_aload_n hx hb dX3_takeSpare_13 rfl (lv_at hl 1 rfl) ?_
  refine lv_aload_n hx hb dX3_takeSpare_14 rfl (lv_at hl 0 rfl) ?_
  refine va_put (D := D) (ci := 3) (v := .ref cu) (ty := tyX3 5) (C := RX3) (T := TX3) (N := 10) hx hb hts (fun _ h => List.mem_cons_of_mem _ (List.mem_append_right _ h)) tyX3 tyX3_ok nmX3 hown hK.1 hP hD hS 0 rfl rfl 5 (by decide) (hts (.fieldLink RX3 38 "LieNights" "spare" "LLieNights$Secret;") (List.mem_of_getElem? (i := 2) rfl)) (fun _ h9 => h9) rfl (tyX3_ok 5 (by decide)) rfl rfl (Nat.le_of_ble_eq_true rfl) dX3_takeSpare_15 (fun H locs hP hD hS => ?_)
  have hP : va_P D vwCl (wL1 cI h sa p0 aa ab sp cu old rd tr lf) H := hP
  have hD : va_D A (wL1 cI h sa p0 aa ab sp cu old rd tr lf) := hD
  refine lv_aload_n hx hb dX3_takeSpare_18 rfl (lv_at hl 1 rfl) ?_
  refine lv_iconst (v := 0) hx hb dX3_takeSpare_19 (by decide) ?_
  refine va_put (D := D) (ci := 3) (v := .int 0) (ty := tyX3 7) (C := RX3) (T := TX3) (N := 10) hx hb hts (fun _ h => List.mem_cons_of_mem _ (List.mem_append_right _ h)) tyX3 tyX3_ok nmX3 hown hK.1 hP hD hS 0 rfl rfl 7 (by decide) (hts (.fieldLink RX3 161 "LieNights" "readings" "I") (List.mem_of_getElem? (i := 3) rfl)) (fun _ h9 => h9) rfl (tyX3_ok 7 (by decide)) rfl rfl (Nat.le_of_ble_eq_true rfl) dX3_takeSpare_20 (fun H locs hP hD hS => ?_)
  have hP : va_P D vwCl (wL1 cI h sa p0 aa ab sp cu old 0 tr lf) H := hP
  have hD : va_D A (wL1 cI h sa p0 aa ab sp cu old 0 tr lf) := hD
  refine lv_aload_n hx hb dX3_takeSpare_23 rfl (lv_at hl 1 rfl) ?_
  refine lv_iconst (v := 1) hx hb dX3_takeSpare_24 (by decide) ?_
  refine va_put (D := D) (ci := 3) (v := .int 1) (ty := tyX3 6) (C := RX3) (T := TX3) (N := 10) hx hb hts (fun _ h => List.mem_cons_of_mem _ (List.mem_append_right _ h)) tyX3 tyX3_ok nmX3 hown hK.1 hP hD hS 0 rfl rfl 6 (by decide) (hts (.fieldLink RX3 41 "LieNights" "planIsOld" "Z") (List.mem_of_getElem? (i := 4) rfl)) (fun _ h9 => h9) rfl (tyX3_ok 6 (by decide)) rfl rfl (Nat.le_of_ble_eq_true rfl) dX3_takeSpare_25 (fun H locs hP hD hS => ?_)
  have hP : va_P D vwCl (wL1 cI h sa p0 aa ab sp cu 1 0 tr lf) H := hP
  have hD : va_D A (wL1 cI h sa p0 aa ab sp cu 1 0 tr lf) := hD
  rw [hQ]
  exact W.vret hx hb hr (fun t ht hW => ⟨⟨(), rfl, trivial, (by show va_P D vwCl _ t.heap; rw [ht]; exact hP)⟩, hS.F ht⟩) hS.2.2 dX3_takeSpare_28

def fX3_noSecret (an : Int32) : Int32 := (if (fX1_answers an) = 0 then 1 else 0)
theorem q_X3_noSecret : yX3_noSecret.cls = RX3 ∧ yX3_noSecret.cls ≠ "java/lang/invoke/MethodHandle" ∧ yX3_noSecret.cls ≠ "java/lang/invoke/VarHandle" ∧ (parseMethodDescriptor yX3_noSecret.desc).map (fun d => d.parameters.length) = some 0 := by decide +kernel
set_option maxHeartbeats 4000000 in
set_option maxRecDepth 100000 in
theorem c_X3_noSecret (l : Launch) (D : va_G) (cI cS : ClassId) (h sa p0 aa ab cu sp q1 q2 q3 : Nat) (old rd tr lf an pn gr : Int32) (kd pl wt : Nat → Int32)  : PMi l yX3_noSecret wsX3_noSecret { frames := 1, cells := 0, slots := 0, locals := 20 } D cI cS (wL5 cI h sa p0 aa ab cu sp q1 q2 q3 old rd tr lf an pn gr kd pl wt) [.ref h] (fX3_noSecret an) := by
  refine kEnter (cc := cX3_noSecret) (maxL := 1) (ret := (some .boolean)) (by decide) rfl (Nat.le_of_ble_eq_true rfl) ?_
  intro p e s m below meth c ls Qf hQ hx hb hml hr hlocks hown hts hK hP hl
  have hown : s.vm.findClass RX3 = some m.cls := hown
  have hl : lv_has ls 1 [(0, .ref h)] := hl
  refine lv_aload_n hx hb dX3_noSecret_0 rfl (lv_at hl 0 rfl) ?_
  refine va_get (D := D) (ci := 3) (v := .ref cu) (C := RX3) (T := TX3) (N := 10) hx hb hts (fun _ h => List.mem_cons_of_mem _ (List.mem_append_left _ (List.mem_append_right _ h))) hown hK.1 hP 0 rfl rfl 4 (by decide) (hts (.fieldLink RX3 34 "LieNights" "secret" "LLieNights$Secret;") (List.mem_of_getElem? (i := 1) rfl)) (fun _ h9 => h9) rfl dX3_noSecret_1 ?_
  refine kPi (va_runV (As := []) (rest := []) ⟨hx, hb, hml, hown, hts⟩ (c_X1_answers l D cI cS cu q1 q2 q3 an pn gr kd pl wt) (cwV 0 hts gX3_noSecret_X1_answers rfl rfl rfl q_X1_answers ⟨Nat.le_of_ble_eq_true rfl, Nat.le_of_ble_eq_true rfl⟩) (kPV hK hP [1, 2, 3, 4] rfl (va_recv hK.1 hP (ci := 1) (q0 := 1) rfl rfl) []) rfl rfl hl.1 rfl (lv_room (Nat.le_of_ble_eq_true rfl)) dX3_noSecret_4 ⟨Nat.zero_le _, Nat.zero_le _⟩) ?_
  refine lv_if_ne (tgt := 14) hx hb dX3_noSecret_7 (by decide) (fun c7 => ?_) (fun c7 => ?_)
  · skip
    refine lv_iconst (v := 0) hx hb dX3_noSecret_14 (by decide) ?_
    have hR1 : (fX3_noSecret an) = 0 := (by unfold fX3_noSecret; rw [if_neg c7])
    rw [hQ]
    exact W.zret (v := 0) (ty := .boolean) hx hb hr rfl (fun t ht hW => ⟨_, rfl, hR1.symm, ht⟩) (fun q h => by cases h) dX3_noSecret_15
  refine lv_iconst (v := 1) hx hb dX3_noSecret_10 (by decide) ?_
  refine lv_goto (tgt := 15) hx hb dX3_noSecret_11 (by decide) ?_
  have hR2 : (fX3_noSecret an) = 1 := (by unfold fX3_noSecret; rw [if_pos c7])
  rw [hQ]
  exact W.zret (v := 1) (ty := .boolean) hx hb hr rfl (fun t ht hW => ⟨_, rfl, hR2.symm, ht⟩) (fun q h => by cases h) dX3_noSecret_15

def fX3_isAnswer (an x : Int32) : Int32 := (if x < 0 then 0 else (if ((fX1_answers an) : Int32) ≤ x then 0 else 1))
theorem q_X3_isAnswer : yX3_isAnswer.cls = RX3 ∧ yX3_isAnswer.cls ≠ "java/lang/invoke/MethodHandle" ∧ yX3_isAnswer.cls ≠ "java/lang/invoke/VarHandle" ∧ (parseMethodDescriptor yX3_isAnswer.desc).map (fun d => d.parameters.length) = some 1 := by decide +kernel
set_option maxHeartbeats 4000000 in
set_option maxRecDepth 100000 in
theorem c_X3_isAnswer (l : Launch) (D : va_G) (cI cS : ClassId) (h sa p0 aa ab cu sp q1 q2 q3 : Nat) (old rd tr lf an pn gr : Int32) (kd pl wt : Nat → Int32) (x : Int32)  : PMi l yX3_isAnswer wsX3_isAnswer { frames := 1, cells := 0, slots := 0, locals := 20 } D cI cS (wL5 cI h sa p0 aa ab cu sp q1 q2 q3 old rd tr lf an pn gr kd pl wt) [.ref h, .int x] (fX3_isAnswer an x) := by
  refine kEnter (cc := cX3_isAnswer) (maxL := 2) (ret := (some .boolean)) (by decide) rfl (Nat.le_of_ble_eq_true rfl) ?_
  intro p e s m below meth c ls Qf hQ hx hb hml hr hlocks hown hts hK hP hl
  have hown : s.vm.findClass RX3 = some m.cls := hown
  have hl : lv_has ls 2 [(0, .ref h), (1, .int x)] := hl
  refine lv_iload_n hx hb dX3_isAnswer_0 rfl (lv_at hl 1 rfl) ?_
  refine lv_if_lt (tgt := 19) hx hb dX3_isAnswer_1 (by decide) (fun c1 => ?_) (fun c1 => ?_)
  · skip
    refine lv_iconst (v := 0) hx hb dX3_isAnswer_19 (by decide) ?_
    have hR1 : (fX3_isAnswer an x) = 0 := (by unfold fX3_isAnswer; rw [if_pos c1])
    rw [hQ]
    exact W.zret (v := 0) (ty := .boolean) hx hb hr rfl (fun t ht hW => ⟨_, rfl, hR1.symm, ht⟩) (fun q h => by cases h) dX3_isAnswer_20
  refine lv_iload_n hx hb dX3_isAnswer_4 rfl (lv_at hl 1 rfl) ?_
  refine lv_aload_n hx hb dX3_isAnswer_5 rfl (lv_at hl 0 rfl) ?_
  refine va_get (D := D) (ci := 3) (v := .ref cu) (C := RX3) (T := TX3) (N := 10) hx hb hts (fun _ h => List.mem_cons_of_mem _ (List.mem_append_left _ (List.mem_append_right _ h))) hown hK.1 hP 0 rfl rfl 4 (by decide) (hts (.fieldLink RX3 34 "LieNights" "secret" "LLieNights$Secret;") (List.mem_of_getElem? (i := 1) rfl)) (fun _ h9 => h9) rfl dX3_isAnswer_6 ?_
  refine kPi (va_runV (As := []) (rest := [.int x]) ⟨hx, hb, hml, hown, hts⟩ (c_X1_answers l D cI cS cu q1 q2 q3 an pn gr kd pl wt) (cwV 0 hts gX3_isAnswer_X1_answers rfl rfl rfl q_X1_answers ⟨Nat.le_of_ble_eq_true rfl, Nat.le_of_ble_eq_true rfl⟩) (kPV hK hP [1, 2, 3, 4] rfl (va_recv hK.1 hP (ci := 1) (q0 := 1) rfl rfl) []) rfl rfl hl.1 rfl (lv_room (Nat.le_of_ble_eq_true rfl)) dX3_isAnswer_9 ⟨Nat.zero_le _, Nat.zero_le _⟩) ?_
  refine lv_icmp_ge (tgt := 19) hx hb dX3_isAnswer_12 (by decide) (fun c12 => ?_) (fun c12 => ?_)
  · skip
    refine lv_iconst (v := 0) hx hb dX3_isAnswer_19 (by decide) ?_
    have hR2 : (fX3_isAnswer an x) = 0 := (by unfold fX3_isAnswer; rw [if_neg c1, if_pos c12])
    rw [hQ]
    exact W.zret (v := 0) (ty := .boolean) hx hb hr rfl (fun t ht hW => ⟨_, rfl, hR2.symm, ht⟩) (fun q h => by cases h) dX3_isAnswer_20
  refine lv_iconst (v := 1) hx hb dX3_isAnswer_15 (by decide) ?_
  refine lv_goto (tgt := 20) hx hb dX3_isAnswer_16 (by decide) ?_
  have hR3 : (fX3_isAnswer an x) = 1 := (by unfold fX3_isAnswer; rw [if_neg c1, if_neg c12])
  rw [hQ]
  exact W.zret (v := 1) (ty := .boolean) hx hb hr rfl (fun t ht hW => ⟨_, rfl, hR3.symm, ht⟩) (fun q h => by cases h) dX3_isAnswer_20

theorem q_X3_sheetOf : yX3_sheetOf.cls = RX3 ∧ yX3_sheetOf.cls ≠ "java/lang/invoke/MethodHandle" ∧ yX3_sheetOf.cls ≠ "java/lang/invoke/VarHandle" ∧ (parseMethodDescriptor yX3_sheetOf.desc).map (fun d => d.parameters.length) = some 1 := by decide +kernel
set_option maxHeartbeats 4000000 in
set_option maxRecDepth 100000 in
theorem c_X3_sheetOf_n (l : Launch) (D : va_G) (cI cS : ClassId) (h sa p0 aa ab cu sp : Nat) (old rd tr lf : Int32) (sf : Nat → Option Nat) (x : Int32) (hso : x < 0 ∨ nI 4 ≤ x) : PMq l yX3_sheetOf wsX3_sheetOf { frames := 0, cells := 0, slots := 0, locals := 0 } D cI cS (wL2 cI cS h sa p0 aa ab cu sp old rd tr lf sf) [.ref h, .int x] none := by
  refine kEnter (cc := cX3_sheetOf) (maxL := 2) (ret := (some (.object "LieNights$Sheet"))) (by decide) rfl (Nat.le_of_ble_eq_true rfl) ?_
  intro p e s m below meth c ls Qf hQ hx hb hml hr hlocks hown hts hK hP hl
  have hown : s.vm.findClass RX3 = some m.cls := hown
  have hl : lv_has ls 2 [(0, .ref h), (1, .int x)] := hl
  refine lv_iload_n hx hb dX3_sheetOf_0 rfl (lv_at hl 1 rfl) ?_
  refine lv_if_lt (tgt := 22) hx hb dX3_sheetOf_1 (by decide) (fun c1 => ?_) (fun c1 => ?_)
  · skip
    refine lv_null hx hb dX3_sheetOf_22 ?_
    rw [hQ]
    exact W.aret (v := .null) hx hb hr (Or.inl ⟨_, rfl⟩) (Or.inl rfl) (fun t ht hW => ⟨none, rfl, rfl, ht⟩) (fun q h => by cases h) dX3_sheetOf_23
  refine lv_iload_n hx hb dX3_sheetOf_4 rfl (lv_at hl 1 rfl) ?_
  refine lv_aload_n hx hb dX3_sheetOf_5 rfl (lv_at hl 0 rfl) ?_
  refine va_get (D := D) (ci := 3) (v := .ref sa) (C := RX3) (T := TX3) (N := 10) hx hb hts (fun _ h => List.mem_cons_of_mem _ (List.mem_append_right _ h)) hown hK.1 hP 0 rfl rfl 0 (by decide) (hts (.fieldLink RX3 13 "LieNights" "sheets" "[LLieNights$Sheet;") (List.mem_of_getElem? (i := 1) rfl)) (fun _ h9 => h9) rfl dX3_sheetOf_6 ?_
  refine va_alen hx hb hK.1 hP 1 1 rfl rfl (v := (nI 4)) rfl dX3_sheetOf_9 ?_
  refine lv_icmp_ge (tgt := 22) hx hb dX3_sheetOf_10 (by decide) (fun c10 => ?_) (fun c10 => ?_)
  · skip
    refine lv_null hx hb dX3_sheetOf_22 ?_
    rw [hQ]
    exact W.aret (v := .null) hx hb hr (Or.inl ⟨_, rfl⟩) (Or.inl rfl) (fun t ht hW => ⟨none, rfl, rfl, ht⟩) (fun q h => by cases h) dX3_sheetOf_23
  exact hso.elim (fun q => absurd q c1) (fun q => absurd q c10)

set_option maxHeartbeats 4000000 in
set_option maxRecDepth 100000 in
theorem c_X3_sheetOf_s (l : Launch) (D : va_G) (cI cS : ClassId) (h sa p0 aa ab cu sp : Nat) (old rd tr lf : Int32) (sf : Nat → Option Nat) (x : Int32) (hs0 : ¬ x < 0) (hs1 : ¬ nI 4 ≤ x) : PMq l yX3_sheetOf wsX3_sheetOf { frames := 0, cells := 0, slots := 0, locals := 0 } D cI cS (wL2 cI cS h sa p0 aa ab cu sp old rd tr lf sf) [.ref h, .int x] (sf x.toNatClampNeg) := by
  refine kEnter (cc := cX3_sheetOf) (maxL := 2) (ret := (some (.object "LieNights$Sheet"))) (by decide) rfl (Nat.le_of_ble_eq_true rfl) ?_
  intro p e s m below meth c ls Qf hQ hx hb hml hr hlocks hown hts hK hP hl
  have hown : s.vm.findClass RX3 = some m.cls := hown
  have hl : lv_has ls 2 [(0, .ref h), (1, .int x)] := hl
  refine lv_iload_n hx hb dX3_sheetOf_0 rfl (lv_at hl 1 rfl) ?_
  refine lv_if_lt (tgt := 22) hx hb dX3_sheetOf_1 (by decide) (fun c1 => ?_) (fun c1 => ?_)
  · exact absurd c1 hs0
  refine lv_iload_n hx hb dX3_sheetOf_4 rfl (lv_at hl 1 rfl) ?_
  refine lv_aload_n hx hb dX3_sheetOf_5 rfl (lv_at hl 0 rfl) ?_
  refine va_get (D := D) (ci := 3) (v := .ref sa) (C := RX3) (T := TX3) (N := 10) hx hb hts (fun _ h => List.mem_cons_of_mem _ (List.mem_append_right _ h)) hown hK.1 hP 0 rfl rfl 0 (by decide) (hts (.fieldLink RX3 13 "LieNights" "sheets" "[LLieNights$Sheet;") (List.mem_of_getElem? (i := 1) rfl)) (fun _ h9 => h9) rfl dX3_sheetOf_6 ?_
  refine va_alen hx hb hK.1 hP 1 1 rfl rfl (v := (nI 4)) rfl dX3_sheetOf_9 ?_
  refine lv_icmp_ge (tgt := 22) hx hb dX3_sheetOf_10 (by decide) (fun c10 => ?_) (fun c10 => ?_)
  · exact absurd c10 hs1
  refine lv_aload_n hx hb dX3_sheetOf_13 rfl (lv_at hl 0 rfl) ?_
  refine va_get (D := D) (ci := 3) (v := .ref sa) (C := RX3) (T := TX3) (N := 10) hx hb hts (fun _ h => List.mem_cons_of_mem _ (List.mem_append_right _ h)) hown hK.1 hP 0 rfl rfl 0 (by decide) (hts (.fieldLink RX3 13 "LieNights" "sheets" "[LLieNights$Sheet;") (List.mem_of_getElem? (i := 1) rfl)) (fun _ h9 => h9) rfl dX3_sheetOf_14 ?_
  refine lv_iload_n hx hb dX3_sheetOf_17 rfl (lv_at hl 1 rfl) ?_
  refine va_aldq hx hb hK.1 hP 1 1 rfl rfl (kIn (by decide) hs0 hs1) dX3_sheetOf_18 ?_
  refine lv_goto (tgt := 23) hx hb dX3_sheetOf_19 (by decide) ?_
  rw [hQ]
  exact W.aret (v := (va_rf (sf x.toNatClampNeg))) hx hb hr (Or.inl ⟨_, rfl⟩) (va_rf_or _) (fun t ht hW => ⟨(sf x.toNatClampNeg), rfl, rfl, ht⟩) (fun q h => by cases h) dX3_sheetOf_23

def fX3_planned (old an : Int32) (kd pl al wo fi ni : Nat → Int32) (pa : Int32) (N M : Nat) : (Nat → Int32) × (Nat → Int32) × (Nat → Int32) × (Nat → Int32) × Int32 × Int32 := (if old = 0 then (al, wo, fi, ni, pa, old) else ((fX0_make al wo fi ni an kd pl N M).1, (fX0_make al wo fi ni an kd pl N M).2.1, (fX0_make al wo fi ni an kd pl N M).2.2.1, (fX0_make al wo fi ni an kd pl N M).2.2.2.1, (fX0_make al wo fi ni an kd pl N M).2.2.2.2, 0))
theorem q_X3_planned : yX3_planned.cls = RX3 ∧ yX3_planned.cls ≠ "java/lang/invoke/MethodHandle" ∧ yX3_planned.cls ≠ "java/lang/invoke/VarHandle" ∧ (parseMethodDescriptor yX3_planned.desc).map (fun d => d.parameters.length) = some 0 := by decide +kernel
set_option maxHeartbeats 4000000 in
set_option maxRecDepth 100000 in
theorem c_X3_planned (l : Launch) (D : va_G) (cI cS : ClassId) (h sa p0 aa ab cu sp q1 q2 q3 p1 p2 p3 p4 : Nat) (old rd tr lf an pn gr : Int32) (kd pl wt al wo fi ni : Nat → Int32) (pa : Int32) (N M : Nat) (ha : an = nI N) (hN : N ≤ 6) (hM : fX1_all an = nI M) (hMb : M < 64) : MMq l yX3_planned wsX3_planned { frames := 4, cells := 0, slots := 0, locals := 92 } D cI cS (wL10 cI h sa p0 aa ab cu sp q1 q2 q3 p1 p2 p3 p4 old rd tr lf an pn gr kd pl wt al wo fi ni pa) [.ref h] (some p0) (wL10 cI h sa p0 aa ab cu sp q1 q2 q3 p1 p2 p3 p4 ((fX3_planned old an kd pl al wo fi ni pa N M).2.2.2.2.2) rd tr lf an pn gr kd pl wt ((fX3_planned old an kd pl al wo fi ni pa N M).1) ((fX3_planned old an kd pl al wo fi ni pa N M).2.1) ((fX3_planned old an kd pl al wo fi ni pa N M).2.2.1) ((fX3_planned old an kd pl al wo fi ni pa N M).2.2.2.1) ((fX3_planned old an kd pl al wo fi ni pa N M).2.2.2.2.1)) := by
  refine kEnterM (cc := cX3_planned) (maxL := 1) (ret := (some (.object "LieNights$Plan"))) (by decide) rfl (Nat.le_of_ble_eq_true rfl) ?_
  intro p e s m below meth c ls Qf hQ hx hb hml hr hlocks hown hts hK hP hD hS hl
  have hown : s.vm.findClass RX3 = some m.cls := hown
  have hl : lv_has ls 1 [(0, .ref h)] := hl
  generalize kA (wL10 cI h sa p0 aa ab cu sp q1 q2 q3 p1 p2 p3 p4 old rd tr lf an pn gr kd pl wt al wo fi ni pa) = A at hQ hD hS
  refine lv_aload_n hx hb dX3_planned_0 rfl (lv_at hl 0 rfl) ?_
  refine va_get (D := D) (ci := 3) (v := .int old) (C := RX3) (T := TX3) (N := 10) hx hb hts (fun _ h => List.mem_cons_of_mem _ (List.mem_append_left _ (List.mem_append_left _ (List.mem_append_right _ h)))) hown hK.1 hP 0 rfl rfl 6 (by decide) (hts (.fieldLink RX3 41 "LieNights" "planIsOld" "Z") (List.mem_of_getElem? (i := 1) rfl)) (fun _ h9 => h9) rfl dX3_planned_1 ?_
  refine lv_if_eq (tgt := 23) hx hb dX3_planned_4 (by decide) (fun c4 => ?_) (fun c4 => ?_)
  · skip
    refine lv_aload_n hx hb dX3_planned_23 rfl (lv_at hl 0 rfl) ?_
    refine va_get (D := D) (ci := 3) (v := .ref p0) (C := RX3) (T := TX3) (N := 10) hx hb hts (fun _ h => List.mem_cons_of_mem _ (List.mem_append_left _ (List.mem_append_left _ (List.mem_append_right _ h)))) hown hK.1 hP 0 rfl rfl 1 (by decide) (hts (.fieldLink RX3 20 "LieNights" "plan" "LLieNights$Plan;") (List.mem_of_getElem? (i := 2) rfl)) (fun _ h9 => h9) rfl dX3_planned_24 ?_
    have hR1 : (fX3_planned old an kd pl al wo fi ni pa N M) = (al, wo, fi, ni, pa, old) := (by unfold fX3_planned; rw [if_pos c4])
    rw [hQ]
    exact W.aret (v := .ref p0) hx hb hr (Or.inl ⟨_, rfl⟩) (Or.inr ⟨_, rfl⟩) (fun t ht hW => ⟨⟨some p0, (), rfl, rfl, (by show va_P D vwCl _ t.heap; rw [hR1, ht]; exact hP)⟩, hS.F ht⟩) hS.2.2 dX3_planned_27
  refine lv_aload_n hx hb dX3_planned_7 rfl (lv_at hl 0 rfl) ?_
  refine va_get (D := D) (ci := 3) (v := .ref p0) (C := RX3) (T := TX3) (N := 10) hx hb hts (fun _ h => List.mem_cons_of_mem _ (List.mem_append_left _ (List.mem_append_left _ (List.mem_append_right _ h)))) hown hK.1 hP 0 rfl rfl 1 (by decide) (hts (.fieldLink RX3 20 "LieNights" "plan" "LLieNights$Plan;") (List.mem_of_getElem? (i := 2) rfl)) (fun _ h9 => h9) rfl dX3_planned_8 ?_
  refine lv_aload_n hx hb dX3_planned_11 rfl (lv_at hl 0 rfl) ?_
  refine va_get (D := D) (ci := 3) (v := .ref cu) (C := RX3) (T := TX3) (N := 10) hx hb hts (fun _ h => List.mem_cons_of_mem _ (List.mem_append_left _ (List.mem_append_left _ (List.mem_append_right _ h)))) hown hK.1 hP 0 rfl rfl 4 (by decide) (hts (.fieldLink RX3 34 "LieNights" "secret" "LLieNights$Secret;") (List.mem_of_getElem? (i := 3) rfl)) (fun _ h9 => h9) rfl dX3_planned_12 ?_
  refine kMv (wl' := (wL10 cI h sa p0 aa ab cu sp q1 q2 q3 p1 p2 p3 p4 old rd tr lf an pn gr kd pl wt ((fX0_make al wo fi ni an kd pl N M).1) ((fX0_make al wo fi ni an kd pl N M).2.1) ((fX0_make al wo fi ni an kd pl N M).2.2.1) ((fX0_make al wo fi ni an kd pl N M).2.2.2.1) ((fX0_make al wo fi ni an kd pl N M).2.2.2.2))) (wc := (wPlSec cI p0 p1 p2 p3 p4 al wo fi ni pa cu q1 q2 q3 an pn gr kd pl wt)) (w1 := (wPlSec cI p0 p1 p2 p3 p4 ((fX0_make al wo fi ni an kd pl N M).1) ((fX0_make al wo fi ni an kd pl N M).2.1) ((fX0_make al wo fi ni an kd pl N M).2.2.1) ((fX0_make al wo fi ni an kd pl N M).2.2.2.1) ((fX0_make al wo fi ni an kd pl N M).2.2.2.2) cu q1 q2 q3 an pn gr kd pl wt)) hP hD hS [5, 6, 7, 8, 9, 1, 2, 3, 4] rfl rfl rfl (va_runV (As := [.ref cu]) (rest := []) ⟨hx, hb, hml, hown, hts⟩ (c_X0_make l D cI cS p0 p1 p2 p3 p4 al wo fi ni pa cu q1 q2 q3 an pn gr kd pl wt N M ha hN hM hMb) (cwV 1 hts gX3_planned_X0_make rfl rfl rfl q_X0_make ⟨Nat.le_of_ble_eq_true rfl, Nat.le_of_ble_eq_true rfl⟩) (kMV hK hP hD [5, 6, 7, 8, 9, 1, 2, 3, 4] rfl rfl (va_recv hK.1 hP (ci := 0) (q0 := 5) rfl rfl) [.ref cu]) rfl rfl hl.1 rfl (lv_room (Nat.le_of_ble_eq_true rfl)) dX3_planned_15 ⟨Nat.zero_le _, Nat.zero_le _⟩) (fun H locs hP hD hS => ?_)
  refine lv_aload_n hx hb dX3_planned_18 rfl (lv_at hl 0 rfl) ?_
  refine lv_iconst (v := 0) hx hb dX3_planned_19 (by decide) ?_
  refine va_put (D := D) (ci := 3) (v := .int 0) (ty := tyX3 6) (C := RX3) (T := TX3) (N := 10) hx hb hts (fun _ h => List.mem_cons_of_mem _ (List.mem_append_left _ (List.mem_append_left _ (List.mem_append_right _ h)))) tyX3 tyX3_ok nmX3 hown hK.1 hP hD hS 0 rfl rfl 6 (by decide) (hts (.fieldLink RX3 41 "LieNights" "planIsOld" "Z") (List.mem_of_getElem? (i := 1) rfl)) (fun _ h9 => h9) rfl (tyX3_ok 6 (by decide)) rfl rfl (Nat.le_of_ble_eq_true rfl) dX3_planned_20 (fun H locs hP hD hS => ?_)
  have hP : va_P D vwCl (wL10 cI h sa p0 aa ab cu sp q1 q2 q3 p1 p2 p3 p4 0 rd tr lf an pn gr kd pl wt ((fX0_make al wo fi ni an kd pl N M).1) ((fX0_make al wo fi ni an kd pl N M).2.1) ((fX0_make al wo fi ni an kd pl N M).2.2.1) ((fX0_make al wo fi ni an kd pl N M).2.2.2.1) ((fX0_make al wo fi ni an kd pl N M).2.2.2.2)) H := hP
  have hD : va_D A (wL10 cI h sa p0 aa ab cu sp q1 q2 q3 p1 p2 p3 p4 0 rd tr lf an pn gr kd pl wt ((fX0_make al wo fi ni an kd pl N M).1) ((fX0_make al wo fi ni an kd pl N M).2.1) ((fX0_make al wo fi ni an kd pl N M).2.2.1) ((fX0_make al wo fi ni an kd pl N M).2.2.2.1) ((fX0_make al wo fi ni an kd pl N M).2.2.2.2)) := hD
  refine lv_aload_n hx hb dX3_planned_23 rfl (lv_at hl 0 rfl) ?_
  refine va_get (D := D) (ci := 3) (v := .ref p0) (C := RX3) (T := TX3) (N := 10) hx hb hts (fun _ h => List.mem_cons_of_mem _ (List.mem_append_left _ (List.mem_append_left _ (List.mem_append_right _ h)))) hown hK.1 hP 0 rfl rfl 1 (by decide) (hts (.fieldLink RX3 20 "LieNights" "plan" "LLieNights$Plan;") (List.mem_of_getElem? (i := 2) rfl)) (fun _ h9 => h9) rfl dX3_planned_24 ?_
  have hR2 : (fX3_planned old an kd pl al wo fi ni pa N M) = ((fX0_make al wo fi ni an kd pl N M).1, (fX0_make al wo fi ni an kd pl N M).2.1, (fX0_make al wo fi ni an kd pl N M).2.2.1, (fX0_make al wo fi ni an kd pl N M).2.2.2.1, (fX0_make al wo fi ni an kd pl N M).2.2.2.2, 0) := (by unfold fX3_planned; rw [if_neg c4])
  rw [hQ]
  exact W.aret (v := .ref p0) hx hb hr (Or.inl ⟨_, rfl⟩) (Or.inr ⟨_, rfl⟩) (fun t ht hW => ⟨⟨some p0, (), rfl, rfl, (by show va_P D vwCl _ t.heap; rw [hR2, ht]; exact hP)⟩, hS.F ht⟩) hS.2.2 dX3_planned_27

def aX3_areAnswers_3 (z_3 : Unit) : Int32 := 1
def sX3_areAnswers_3 (an : Int32) (ce : Nat → Int32) (i : Int32) (k3 : Nat) (z_3 : Unit) : (Unit) ⊕ Int32 := (if (fX3_isAnswer an (fX2_get ce (i + (nI k3)))) = 0 then (.inr 0) else (.inl ()))
def fX3_areAnswers (an : Int32) (ce : Nat → Int32) (Nn : Nat) (i : Int32) : Int32 := (lqr (lq (fun k a => sX3_areAnswers_3 an ce i k a) () Nn) (fun a => aX3_areAnswers_3  a))
theorem q_X3_areAnswers : yX3_areAnswers.cls = RX3 ∧ yX3_areAnswers.cls ≠ "java/lang/invoke/MethodHandle" ∧ yX3_areAnswers.cls ≠ "java/lang/invoke/VarHandle" ∧ (parseMethodDescriptor yX3_areAnswers.desc).map (fun d => d.parameters.length) = some 3 := by decide +kernel
set_option maxHeartbeats 4000000 in
set_option maxRecDepth 100000 in
theorem c_X3_areAnswers (l : Launch) (D : va_G) (cI cS : ClassId) (h sa p0 aa ab cu sp q1 q2 q3 j0 j1 : Nat) (old rd tr lf an pn gr : Int32) (kd pl wt : Nat → Int32) (la le : Int32) (ce : Nat → Int32) (Nn : Nat) (i nn : Int32) (hn : nn = nI Nn) (hNn : Nn ≤ 60) : PMi l yX3_areAnswers wsX3_areAnswers { frames := 2, cells := 0, slots := 0, locals := 42 } D cI cS (wL7 cI h sa p0 aa ab cu sp q1 q2 q3 j0 j1 old rd tr lf an pn gr kd pl wt la le ce) [.ref h, .ref j0, .int i, .int nn] (fX3_areAnswers an ce Nn i) := by
  refine kEnter (cc := cX3_areAnswers) (maxL := 5) (ret := (some .boolean)) (by decide) rfl (Nat.le_of_ble_eq_true rfl) ?_
  intro p e s m below meth c ls Qf hQ hx hb hml hr hlocks hown hts hK hP hl
  have hown : s.vm.findClass RX3 = some m.cls := hown
  have hl : lv_has ls 5 [(0, .ref h), (1, .ref j0), (2, .int i), (3, .int nn)] := hl
  refine lv_iconst (v := 0) hx hb dX3_areAnswers_0 (by decide) ?_
  refine lv_istore (lv' := [(4, .int 0), (0, .ref h), (1, .ref j0), (2, .int i), (3, .int nn)]) hx hb dX3_areAnswers_1 hl (by decide) rfl (fun ls hl => ?_)
  have hR1 : (fX3_areAnswers an ce Nn i) = (lqr (lq (fun k a => sX3_areAnswers_3 an ce i k a) () Nn) (fun a => aX3_areAnswers_3  a)) := rfl
  have loop3 : ∀ (n k3 : Nat), k3 ≤ Nn → Nn + 1 ≤ k3 + n → ∀ (z_3 : Unit), lq (fun k a => sX3_areAnswers_3 an ce i k a) () k3 = Sum.inl z_3 →  ∀ (ls : Array Slot), lv_has ls 5 [(0, .ref h), (1, .ref j0), (2, .int i), (3, .int nn), (4, .int (nI k3))] → W p l e { frames := 2, cells := 0, slots := 0, locals := 42 } s m ([.ref h, .ref j0, .int i, .int nn] : List Value).toArray below meth c s.heap [] 0 0 Qf (F0 m 3 ls []) := by
    intro n
    induction n with
    | zero => intro k3 h1 h2; exact absurd h2 (by omega)
    | succ n ih =>
      intro k3 hk3 hn3 z_3 hacc3  ls hl
      have ih3 := ih
      refine lv_iload hx hb dX3_areAnswers_3 (lv_at hl 4 rfl) ?_
      refine lv_iload_n hx hb dX3_areAnswers_5 rfl (lv_at hl 3 rfl) ?_
      refine lv_icmp_ge (tgt := 32) hx hb dX3_areAnswers_6 (by decide) (fun c6 => ?_) (fun c6 => ?_)
      · skip
        have hkN : k3 = Nn := (kEnd hk3 rfl hn (by omega) c6)
        rw [hkN] at hacc3
        have hR2 : (fX3_areAnswers an ce Nn i) = aX3_areAnswers_3  z_3 := hR1.trans (lq_end (x := z_3) (g := (fun a => aX3_areAnswers_3  a)) hacc3)
        refine lv_iconst (v := 1) hx hb dX3_areAnswers_32 (by decide) ?_
        have hR3 : (fX3_areAnswers an ce Nn i) = 1 := hR2.trans rfl
        rw [hQ]
        exact W.zret (v := 1) (ty := .boolean) hx hb hr rfl (fun t ht hW => ⟨_, rfl, hR3.symm, ht⟩) (fun q h => by cases h) dX3_areAnswers_33
      have hlt3 : k3 < Nn := (kLt hk3 rfl hn c6)
      refine lv_aload_n hx hb dX3_areAnswers_9 rfl (lv_at hl 0 rfl) ?_
      refine lv_aload_n hx hb dX3_areAnswers_10 rfl (lv_at hl 1 rfl) ?_
      refine lv_iload_n hx hb dX3_areAnswers_11 rfl (lv_at hl 2 rfl) ?_
      refine lv_iload hx hb dX3_areAnswers_12 (lv_at hl 4 rfl) ?_
      refine lv_iadd hx hb dX3_areAnswers_14 ?_
      refine kPi (va_runV (As := [.int (i + (nI k3))]) (rest := [.ref h]) ⟨hx, hb, hml, hown, hts⟩ (c_X2_get l D cI cS j0 j1 la le ce (i + (nI k3))) (cwV 1 hts gX3_areAnswers_X2_get rfl rfl rfl q_X2_get ⟨Nat.le_of_ble_eq_true rfl, Nat.le_of_ble_eq_true rfl⟩) (kPV hK hP [5, 6] rfl (va_recv hK.1 hP (ci := 2) (q0 := 5) rfl rfl) [.int (i + (nI k3))]) rfl rfl hl.1 rfl (lv_room (Nat.le_of_ble_eq_true rfl)) dX3_areAnswers_15 ⟨Nat.zero_le _, Nat.zero_le _⟩) ?_
      refine kPi (va_runV (As := [.int (fX2_get ce (i + (nI k3)))]) (rest := []) ⟨hx, hb, hml, hown, hts⟩ (c_X3_isAnswer l D cI cS h sa p0 aa ab cu sp q1 q2 q3 old rd tr lf an pn gr kd pl wt (fX2_get ce (i + (nI k3)))) (cwV 1 hts gX3_areAnswers_X3_isAnswer rfl rfl rfl q_X3_isAnswer ⟨Nat.le_of_ble_eq_true rfl, Nat.le_of_ble_eq_true rfl⟩) (kPV hK hP [0, 1, 2, 3, 4] rfl (va_recv hK.1 hP (ci := 3) (q0 := 0) rfl rfl) [.int (fX2_get ce (i + (nI k3)))]) rfl rfl hl.1 rfl (lv_room (Nat.le_of_ble_eq_true rfl)) dX3_areAnswers_18 ⟨Nat.zero_le _, Nat.zero_le _⟩) ?_
      refine lv_if_ne (tgt := 26) hx hb dX3_areAnswers_21 (by decide) (fun c21 => ?_) (fun c21 => ?_)
      · skip
        refine lv_iinc (v := (nI (k3 + 1))) (lv' := [(4, .int (nI (k3 + 1))), (0, .ref h), (1, .ref j0), (2, .int i), (3, .int nn)]) hx hb dX3_areAnswers_26 hl (k := 4) rfl (nI_1 (k3)) (by decide) rfl (fun ls hl => ?_)
        refine lv_goto (tgt := 3) hx hb dX3_areAnswers_29 (by decide) ?_
        have hR4 : sX3_areAnswers_3 an ce i k3 z_3 = (.inl ()) := (by unfold sX3_areAnswers_3; rw [if_neg c21])
        exact ih3 (k3 + 1) hlt3 (by omega) _ (lq_next hacc3 hR4)  ls (lv_sub hl [1, 2, 3, 4, 0] rfl)
      refine lv_iconst (v := 0) hx hb dX3_areAnswers_24 (by decide) ?_
      have hR5 : sX3_areAnswers_3 an ce i k3 z_3 = (.inr 0) := (by unfold sX3_areAnswers_3; rw [if_pos c21])
      have hR6 : (fX3_areAnswers an ce Nn i) = 0 := hR1.trans (lq_exit hacc3 hR5 hlt3)
      rw [hQ]
      exact W.zret (v := 0) (ty := .boolean) hx hb hr rfl (fun t ht hW => ⟨_, rfl, hR6.symm, ht⟩) (fun q h => by cases h) dX3_areAnswers_25
  exact loop3 (Nn + 1) 0 (Nat.zero_le _) (by omega) _ rfl  ls (lv_sub hl [1, 2, 3, 4, 0] rfl)

def aX3_boundOn_3 (z_3 : Unit) : Int32 := (-9)
def sX3_boundOn_3 (ce : Nat → Int32) (t i : Int32) (k3 : Nat) (z_3 : Unit) : (Unit) ⊕ Int32 := (if (fX2_get ce (i + (nI k3))) = t then (.inr (nI k3)) else (.inl ()))
def fX3_boundOn (ce : Nat → Int32) (Nn : Nat) (t i : Int32) : Int32 := (lqr (lq (fun k a => sX3_boundOn_3 ce t i k a) () Nn) (fun a => aX3_boundOn_3  a))
theorem q_X3_boundOn : yX3_boundOn.cls = RX3 ∧ yX3_boundOn.cls ≠ "java/lang/invoke/MethodHandle" ∧ yX3_boundOn.cls ≠ "java/lang/invoke/VarHandle" ∧ (parseMethodDescriptor yX3_boundOn.desc).map (fun d => d.parameters.length) = some 4 := by decide +kernel
set_option maxHeartbeats 4000000 in
set_option maxRecDepth 100000 in
theorem c_X3_boundOn (l : Launch) (D : va_G) (cI cS : ClassId) (h ac : Nat) (la le : Int32) (ce : Nat → Int32) (hh Nn : Nat) (t i nn : Int32) (hn : nn = nI Nn) (hNn : Nn ≤ 60) : PMi l yX3_boundOn wsX3_boundOn { frames := 2, cells := 0, slots := 0, locals := 42 } D cI cS (wSh cI h ac la le ce) [.ref hh, .int t, .ref h, .int i, .int nn] (fX3_boundOn ce Nn t i) := by
  refine kEnter (cc := cX3_boundOn) (maxL := 6) (ret := (some .int)) (by decide) rfl (Nat.le_of_ble_eq_true rfl) ?_
  intro p e s m below meth c ls Qf hQ hx hb hml hr hlocks hown hts hK hP hl
  have hown : s.vm.findClass RX3 = some m.cls := hown
  have hl : lv_has ls 6 [(0, .ref hh), (1, .int t), (2, .ref h), (3, .int i), (4, .int nn)] := hl
  refine lv_iconst (v := 0) hx hb dX3_boundOn_0 (by decide) ?_
  refine lv_istore (lv' := [(5, .int 0), (0, .ref hh), (1, .int t), (2, .ref h), (3, .int i), (4, .int nn)]) hx hb dX3_boundOn_1 hl (by decide) rfl (fun ls hl => ?_)
  have hR1 : (fX3_boundOn ce Nn t i) = (lqr (lq (fun k a => sX3_boundOn_3 ce t i k a) () Nn) (fun a => aX3_boundOn_3  a)) := rfl
  have loop3 : ∀ (n k3 : Nat), k3 ≤ Nn → Nn + 1 ≤ k3 + n → ∀ (z_3 : Unit), lq (fun k a => sX3_boundOn_3 ce t i k a) () k3 = Sum.inl z_3 →  ∀ (ls : Array Slot), lv_has ls 6 [(0, .ref hh), (1, .int t), (2, .ref h), (3, .int i), (4, .int nn), (5, .int (nI k3))] → W p l e { frames := 2, cells := 0, slots := 0, locals := 42 } s m ([.ref hh, .int t, .ref h, .int i, .int nn] : List Value).toArray below meth c s.heap [] 0 0 Qf (F0 m 3 ls []) := by
    intro n
    induction n with
    | zero => intro k3 h1 h2; exact absurd h2 (by omega)
    | succ n ih =>
      intro k3 hk3 hn3 z_3 hacc3  ls hl
      have ih3 := ih
      refine lv_iload hx hb dX3_boundOn_3 (lv_at hl 5 rfl) ?_
      refine lv_iload hx hb dX3_boundOn_5 (lv_at hl 4 rfl) ?_
      refine lv_icmp_ge (tgt := 31) hx hb dX3_boundOn_7 (by decide) (fun c7 => ?_) (fun c7 => ?_)
      · skip
        have hkN : k3 = Nn := (kEnd hk3 rfl hn (by omega) c7)
        rw [hkN] at hacc3
        have hR2 : (fX3_boundOn ce Nn t i) = aX3_boundOn_3  z_3 := hR1.trans (lq_end (x := z_3) (g := (fun a => aX3_boundOn_3  a)) hacc3)
        refine lv_bipush (v := (-9)) hx hb dX3_boundOn_31 (by decide) ?_
        have hR3 : (fX3_boundOn ce Nn t i) = (-9) := hR2.trans rfl
        rw [hQ]
        exact W.iret (v := (-9)) hx hb hr (fun t ht hW => ⟨_, rfl, hR3.symm, ht⟩) (fun q h => by cases h) dX3_boundOn_33
      have hlt3 : k3 < Nn := (kLt hk3 rfl hn c7)
      refine lv_aload_n hx hb dX3_boundOn_10 rfl (lv_at hl 2 rfl) ?_
      refine lv_iload_n hx hb dX3_boundOn_11 rfl (lv_at hl 3 rfl) ?_
      refine lv_iload hx hb dX3_boundOn_12 (lv_at hl 5 rfl) ?_
      refine lv_iadd hx hb dX3_boundOn_14 ?_
      refine kPi (va_runV (As := [.int (i + (nI k3))]) (rest := []) ⟨hx, hb, hml, hown, hts⟩ (c_X2_get l D cI cS h ac la le ce (i + (nI k3))) (cwV 1 hts gX3_boundOn_X2_get rfl rfl rfl q_X2_get ⟨Nat.le_of_ble_eq_true rfl, Nat.le_of_ble_eq_true rfl⟩) (kPV hK hP [0, 1] rfl (va_recv hK.1 hP (ci := 2) (q0 := 0) rfl rfl) [.int (i + (nI k3))]) rfl rfl hl.1 rfl (lv_room (Nat.le_of_ble_eq_true rfl)) dX3_boundOn_15 ⟨Nat.zero_le _, Nat.zero_le _⟩) ?_
      refine lv_iload_n hx hb dX3_boundOn_18 rfl (lv_at hl 1 rfl) ?_
      refine lv_icmp_ne (tgt := 25) hx hb dX3_boundOn_19 (by decide) (fun c19 => ?_) (fun c19 => ?_)
      · skip
        refine lv_iinc (v := (nI (k3 + 1))) (lv' := [(5, .int (nI (k3 + 1))), (0, .ref hh), (1, .int t), (2, .ref h), (3, .int i), (4, .int nn)]) hx hb dX3_boundOn_25 hl (k := 5) rfl (nI_1 (k3)) (by decide) rfl (fun ls hl => ?_)
        refine lv_goto (tgt := 3) hx hb dX3_boundOn_28 (by decide) ?_
        have hR4 : sX3_boundOn_3 ce t i k3 z_3 = (.inl ()) := (by unfold sX3_boundOn_3; rw [if_neg c19])
        exact ih3 (k3 + 1) hlt3 (by omega) _ (lq_next hacc3 hR4)  ls (lv_sub hl [1, 2, 3, 4, 5, 0] rfl)
      refine lv_iload hx hb dX3_boundOn_22 (lv_at hl 5 rfl) ?_
      have hR5 : sX3_boundOn_3 ce t i k3 z_3 = (.inr (nI k3)) := (by unfold sX3_boundOn_3; rw [if_pos c19])
      have hR6 : (fX3_boundOn ce Nn t i) = (nI k3) := hR1.trans (lq_exit hacc3 hR5 hlt3)
      rw [hQ]
      exact W.iret (v := (nI k3)) hx hb hr (fun t ht hW => ⟨_, rfl, hR6.symm, ht⟩) (fun q h => by cases h) dX3_boundOn_24
  exact loop3 (Nn + 1) 0 (Nat.zero_le _) (by omega) _ rfl  ls (lv_sub hl [1, 2, 3, 4, 5, 0] rfl)

def aX3_mayBe_12 (v5_12 : Int32) : Int32 := v5_12
def sX3_mayBe_12 (kd pl ce : Nat → Int32) (N : Nat) (t i : Int32) (k12 : Nat) (v5_12 : Int32) : (Int32) := (v5_12 &&& (fX1_alike kd pl N (fX2_get ce (i + (nI k12))) t))
def fX3_mayBe (an : Int32) (kd pl ce : Nat → Int32) (N Nn : Nat) (t i : Int32) : Int32 := (aX3_mayBe_12  (lp (fun k a => sX3_mayBe_12 kd pl ce N t i k a) (fX1_all an) Nn))
theorem q_X3_mayBe : yX3_mayBe.cls = RX3 ∧ yX3_mayBe.cls ≠ "java/lang/invoke/MethodHandle" ∧ yX3_mayBe.cls ≠ "java/lang/invoke/VarHandle" ∧ (parseMethodDescriptor yX3_mayBe.desc).map (fun d => d.parameters.length) = some 4 := by decide +kernel
set_option maxHeartbeats 4000000 in
set_option maxRecDepth 100000 in
theorem c_X3_mayBe (l : Launch) (D : va_G) (cI cS : ClassId) (h sa p0 aa ab cu sp q1 q2 q3 j0 j1 : Nat) (old rd tr lf an pn gr : Int32) (kd pl wt : Nat → Int32) (la le : Int32) (ce : Nat → Int32) (N Nn : Nat) (t i nn : Int32) (ha : an = nI N) (hN : N ≤ 6) (hn : nn = nI Nn) (hNn : Nn ≤ 60) : PMi l yX3_mayBe wsX3_mayBe { frames := 3, cells := 0, slots := 0, locals := 69 } D cI cS (wL7 cI h sa p0 aa ab cu sp q1 q2 q3 j0 j1 old rd tr lf an pn gr kd pl wt la le ce) [.ref h, .int t, .ref j0, .int i, .int nn] (fX3_mayBe an kd pl ce N Nn t i) := by
  refine kEnter (cc := cX3_mayBe) (maxL := 7) (ret := (some .int)) (by decide) rfl (Nat.le_of_ble_eq_true rfl) ?_
  intro p e s m below meth c ls Qf hQ hx hb hml hr hlocks hown hts hK hP hl
  have hown : s.vm.findClass RX3 = some m.cls := hown
  have hl : lv_has ls 7 [(0, .ref h), (1, .int t), (2, .ref j0), (3, .int i), (4, .int nn)] := hl
  refine lv_aload_n hx hb dX3_mayBe_0 rfl (lv_at hl 0 rfl) ?_
  refine va_get (D := D) (ci := 3) (v := .ref cu) (C := RX3) (T := TX3) (N := 10) hx hb hts (fun _ h => List.mem_cons_of_mem _ (List.mem_append_left _ (List.mem_append_left _ (List.mem_append_right _ h)))) hown hK.1 hP 0 rfl rfl 4 (by decide) (hts (.fieldLink RX3 34 "LieNights" "secret" "LLieNights$Secret;") (List.mem_of_getElem? (i := 1) rfl)) (fun _ h9 => h9) rfl dX3_mayBe_1 ?_
  refine kPi (va_runV (As := []) (rest := []) ⟨hx, hb, hml, hown, hts⟩ (c_X1_all l D cI cS cu q1 q2 q3 an pn gr kd pl wt) (cwV 0 hts gX3_mayBe_X1_all rfl rfl rfl q_X1_all ⟨Nat.le_of_ble_eq_true rfl, Nat.le_of_ble_eq_true rfl⟩) (kPV hK hP [1, 2, 3, 4] rfl (va_recv hK.1 hP (ci := 1) (q0 := 1) rfl rfl) []) rfl rfl hl.1 rfl (lv_room (Nat.le_of_ble_eq_true rfl)) dX3_mayBe_4 ⟨Nat.zero_le _, Nat.zero_le _⟩) ?_
  refine lv_istore (lv' := [(5, .int (fX1_all an)), (0, .ref h), (1, .int t), (2, .ref j0), (3, .int i), (4, .int nn)]) hx hb dX3_mayBe_7 hl (by decide) rfl (fun ls hl => ?_)
  refine lv_iconst (v := 0) hx hb dX3_mayBe_9 (by decide) ?_
  refine lv_istore (lv' := [(6, .int 0), (5, .int (fX1_all an)), (0, .ref h), (1, .int t), (2, .ref j0), (3, .int i), (4, .int nn)]) hx hb dX3_mayBe_10 hl (by decide) rfl (fun ls hl => ?_)
  have hR1 : (fX3_mayBe an kd pl ce N Nn t i) = (aX3_mayBe_12  (lp (fun k a => sX3_mayBe_12 kd pl ce N t i k a) (fX1_all an) Nn)) := rfl
  have loop12 : ∀ (n k12 : Nat), k12 ≤ Nn → Nn + 1 ≤ k12 + n → ∀ (v5_12 : Int32), lp (fun k a => sX3_mayBe_12 kd pl ce N t i k a) (fX1_all an) k12 = v5_12 →  ∀ (ls : Array Slot), lv_has ls 7 [(0, .ref h), (1, .int t), (2, .ref j0), (3, .int i), (4, .int nn), (5, .int v5_12), (6, .int (nI k12))] → W p l e { frames := 3, cells := 0, slots := 0, locals := 69 } s m ([.ref h, .int t, .ref j0, .int i, .int nn] : List Value).toArray below meth c s.heap [] 0 0 Qf (F0 m 12 ls []) := by
    intro n
    induction n with
    | zero => intro k12 h1 h2; exact absurd h2 (by omega)
    | succ n ih =>
      intro k12 hk12 hn12 v5_12 hacc12  ls hl
      have ih12 := ih
      refine lv_iload hx hb dX3_mayBe_12 (lv_at hl 6 rfl) ?_
      refine lv_iload hx hb dX3_mayBe_14 (lv_at hl 4 rfl) ?_
      refine lv_icmp_ge (tgt := 46) hx hb dX3_mayBe_16 (by decide) (fun c16 => ?_) (fun c16 => ?_)
      · skip
        have hkN : k12 = Nn := (kEnd hk12 rfl hn (by omega) c16)
        rw [hkN] at hacc12
        have hR2 : (fX3_mayBe an kd pl ce N Nn t i) = aX3_mayBe_12  v5_12 := hR1.trans (lp_end (x := v5_12) (g := (fun a => aX3_mayBe_12  a)) hacc12)
        refine lv_iload hx hb dX3_mayBe_46 (lv_at hl 5 rfl) ?_
        have hR3 : (fX3_mayBe an kd pl ce N Nn t i) = v5_12 := hR2.trans rfl
        rw [hQ]
        exact W.iret (v := v5_12) hx hb hr (fun t ht hW => ⟨_, rfl, hR3.symm, ht⟩) (fun q h => by cases h) dX3_mayBe_48
      have hlt12 : k12 < Nn := (kLt hk12 rfl hn c16)
      refine lv_iload hx hb dX3_mayBe_19 (lv_at hl 5 rfl) ?_
      refine lv_aload_n hx hb dX3_mayBe_21 rfl (lv_at hl 0 rfl) ?_
      refine va_get (D := D) (ci := 3) (v := .ref cu) (C := RX3) (T := TX3) (N := 10) hx hb hts (fun _ h => List.mem_cons_of_mem _ (List.mem_append_left _ (List.mem_append_left _ (List.mem_append_right _ h)))) hown hK.1 hP 0 rfl rfl 4 (by decide) (hts (.fieldLink RX3 34 "LieNights" "secret" "LLieNights$Secret;") (List.mem_of_getElem? (i := 1) rfl)) (fun _ h9 => h9) rfl dX3_mayBe_22 ?_
      refine lv_aload_n hx hb dX3_mayBe_25 rfl (lv_at hl 2 rfl) ?_
      refine lv_iload_n hx hb dX3_mayBe_26 rfl (lv_at hl 3 rfl) ?_
      refine lv_iload hx hb dX3_mayBe_27 (lv_at hl 6 rfl) ?_
      refine lv_iadd hx hb dX3_mayBe_29 ?_
      refine kPi (va_runV (As := [.int (i + (nI k12))]) (rest := [.ref cu, .int v5_12]) ⟨hx, hb, hml, hown, hts⟩ (c_X2_get l D cI cS j0 j1 la le ce (i + (nI k12))) (cwV 1 hts gX3_mayBe_X2_get rfl rfl rfl q_X2_get ⟨Nat.le_of_ble_eq_true rfl, Nat.le_of_ble_eq_true rfl⟩) (kPV hK hP [5, 6] rfl (va_recv hK.1 hP (ci := 2) (q0 := 5) rfl rfl) [.int (i + (nI k12))]) rfl rfl hl.1 rfl (lv_room (Nat.le_of_ble_eq_true rfl)) dX3_mayBe_30 ⟨Nat.zero_le _, Nat.zero_le _⟩) ?_
      refine lv_iload_n hx hb dX3_mayBe_33 rfl (lv_at hl 1 rfl) ?_
      refine kPi (va_runV (As := [.int (fX2_get ce (i + (nI k12))), .int t]) (rest := [.int v5_12]) ⟨hx, hb, hml, hown, hts⟩ (c_X1_alike l D cI cS cu q1 q2 q3 an pn gr kd pl wt N (fX2_get ce (i + (nI k12))) t ha hN) (cwV 2 hts gX3_mayBe_X1_alike rfl rfl rfl q_X1_alike ⟨Nat.le_of_ble_eq_true rfl, Nat.le_of_ble_eq_true rfl⟩) (kPV hK hP [1, 2, 3, 4] rfl (va_recv hK.1 hP (ci := 1) (q0 := 1) rfl rfl) [.int (fX2_get ce (i + (nI k12))), .int t]) rfl rfl hl.1 rfl (lv_room (Nat.le_of_ble_eq_true rfl)) dX3_mayBe_34 ⟨Nat.zero_le _, Nat.zero_le _⟩) ?_
      refine lv_iand hx hb dX3_mayBe_37 ?_
      refine lv_istore (lv' := [(5, .int (v5_12 &&& (fX1_alike kd pl N (fX2_get ce (i + (nI k12))) t))), (0, .ref h), (1, .int t), (2, .ref j0), (3, .int i), (4, .int nn), (6, .int (nI k12))]) hx hb dX3_mayBe_38 hl (by decide) rfl (fun ls hl => ?_)
      refine lv_iinc (v := (nI (k12 + 1))) (lv' := [(6, .int (nI (k12 + 1))), (5, .int (v5_12 &&& (fX1_alike kd pl N (fX2_get ce (i + (nI k12))) t))), (0, .ref h), (1, .int t), (2, .ref j0), (3, .int i), (4, .int nn)]) hx hb dX3_mayBe_40 hl (k := 6) rfl (nI_1 (k12)) (by decide) rfl (fun ls hl => ?_)
      refine lv_goto (tgt := 12) hx hb dX3_mayBe_43 (by decide) ?_
      have hR4 : sX3_mayBe_12 kd pl ce N t i k12 v5_12 = (v5_12 &&& (fX1_alike kd pl N (fX2_get ce (i + (nI k12))) t)) := rfl
      exact ih12 (k12 + 1) hlt12 (by omega) _ (lp_next hacc12 hR4)  ls (lv_sub hl [2, 3, 4, 5, 6, 1, 0] rfl)
  exact loop12 (Nn + 1) 0 (Nat.zero_le _) (by omega) _ rfl  ls (lv_sub hl [2, 3, 4, 5, 6, 1, 0] rfl)

def aX3_isBoundWithin_12 (v4_12 : Int32) : Int32 := 0
def sX3_isBoundWithin_12 (kd pl fi : Nat → Int32) (N : Nat) (t : Int32) (k12 : Nat) (v4_12 : Int32) : (Int32) ⊕ Int32 := (if (fX0_askOf fi v4_12) = t then (.inr 1) else (.inl (v4_12 &&& (fX1_alike kd pl N (fX0_askOf fi v4_12) t))))
def fX3_isBoundWithin (an : Int32) (kd pl fi : Nat → Int32) (N Nn : Nat) (t : Int32) : Int32 := (lqr (lq (fun k a => sX3_isBoundWithin_12 kd pl fi N t k a) (fX1_all an) Nn) (fun a => aX3_isBoundWithin_12  a))
theorem q_X3_isBoundWithin : yX3_isBoundWithin.cls = RX3 ∧ yX3_isBoundWithin.cls ≠ "java/lang/invoke/MethodHandle" ∧ yX3_isBoundWithin.cls ≠ "java/lang/invoke/VarHandle" ∧ (parseMethodDescriptor yX3_isBoundWithin.desc).map (fun d => d.parameters.length) = some 3 := by decide +kernel
set_option maxHeartbeats 4000000 in
set_option maxRecDepth 100000 in
theorem c_X3_isBoundWithin (l : Launch) (D : va_G) (cI cS : ClassId) (h sa p0 aa ab cu sp q1 q2 q3 p1 p2 p3 p4 : Nat) (old rd tr lf an pn gr : Int32) (kd pl wt al wo fi ni : Nat → Int32) (pa : Int32) (N Nn : Nat) (t nn : Int32) (ha : an = nI N) (hN : N ≤ 6) (hn : nn = nI Nn) (hNn : Nn ≤ 60) : PMi l yX3_isBoundWithin wsX3_isBoundWithin { frames := 3, cells := 0, slots := 0, locals := 69 } D cI cS (wL10 cI h sa p0 aa ab cu sp q1 q2 q3 p1 p2 p3 p4 old rd tr lf an pn gr kd pl wt al wo fi ni pa) [.ref h, .ref p0, .int t, .int nn] (fX3_isBoundWithin an kd pl fi N Nn t) := by
  refine kEnter (cc := cX3_isBoundWithin) (maxL := 7) (ret := (some .boolean)) (by decide) rfl (Nat.le_of_ble_eq_true rfl) ?_
  intro p e s m below meth c ls Qf hQ hx hb hml hr hlocks hown hts hK hP hl
  have hown : s.vm.findClass RX3 = some m.cls := hown
  have hl : lv_has ls 7 [(0, .ref h), (1, .ref p0), (2, .int t), (3, .int nn)] := hl
  refine lv_aload_n hx hb dX3_isBoundWithin_0 rfl (lv_at hl 0 rfl) ?_
  refine va_get (D := D) (ci := 3) (v := .ref cu) (C := RX3) (T := TX3) (N := 10) hx hb hts (fun _ h => List.mem_cons_of_mem _ (List.mem_append_left _ (List.mem_append_left _ (List.mem_append_right _ h)))) hown hK.1 hP 0 rfl rfl 4 (by decide) (hts (.fieldLink RX3 34 "LieNights" "secret" "LLieNights$Secret;") (List.mem_of_getElem? (i := 1) rfl)) (fun _ h9 => h9) rfl dX3_isBoundWithin_1 ?_
  refine kPi (va_runV (As := []) (rest := []) ⟨hx, hb, hml, hown, hts⟩ (c_X1_all l D cI cS cu q1 q2 q3 an pn gr kd pl wt) (cwV 0 hts gX3_isBoundWithin_X1_all rfl rfl rfl q_X1_all ⟨Nat.le_of_ble_eq_true rfl, Nat.le_of_ble_eq_true rfl⟩) (kPV hK hP [1, 2, 3, 4] rfl (va_recv hK.1 hP (ci := 1) (q0 := 1) rfl rfl) []) rfl rfl hl.1 rfl (lv_room (Nat.le_of_ble_eq_true rfl)) dX3_isBoundWithin_4 ⟨Nat.zero_le _, Nat.zero_le _⟩) ?_
  refine lv_istore (lv' := [(4, .int (fX1_all an)), (0, .ref h), (1, .ref p0), (2, .int t), (3, .int nn)]) hx hb dX3_isBoundWithin_7 hl (by decide) rfl (fun ls hl => ?_)
  refine lv_iconst (v := 0) hx hb dX3_isBoundWithin_9 (by decide) ?_
  refine lv_istore (lv' := [(5, .int 0), (4, .int (fX1_all an)), (0, .ref h), (1, .ref p0), (2, .int t), (3, .int nn)]) hx hb dX3_isBoundWithin_10 hl (by decide) rfl (fun ls hl => ?_)
  have hR1 : (fX3_isBoundWithin an kd pl fi N Nn t) = (lqr (lq (fun k a => sX3_isBoundWithin_12 kd pl fi N t k a) (fX1_all an) Nn) (fun a => aX3_isBoundWithin_12  a)) := rfl
  have loop12 : ∀ (n k12 : Nat), k12 ≤ Nn → Nn + 1 ≤ k12 + n → ∀ (v4_12 : Int32), lq (fun k a => sX3_isBoundWithin_12 kd pl fi N t k a) (fX1_all an) k12 = Sum.inl v4_12 →  ∀ (ls : Array Slot), lv_has ls 7 [(0, .ref h), (1, .ref p0), (2, .int t), (3, .int nn), (4, .int v4_12), (5, .int (nI k12))] → W p l e { frames := 3, cells := 0, slots := 0, locals := 69 } s m ([.ref h, .ref p0, .int t, .int nn] : List Value).toArray below meth c s.heap [] 0 0 Qf (F0 m 12 ls []) := by
    intro n
    induction n with
    | zero => intro k12 h1 h2; exact absurd h2 (by omega)
    | succ n ih =>
      intro k12 hk12 hn12 v4_12 hacc12  ls hl
      have ih12 := ih
      refine lv_iload hx hb dX3_isBoundWithin_12 (lv_at hl 5 rfl) ?_
      refine lv_iload_n hx hb dX3_isBoundWithin_14 rfl (lv_at hl 3 rfl) ?_
      refine lv_icmp_ge (tgt := 55) hx hb dX3_isBoundWithin_15 (by decide) (fun c15 => ?_) (fun c15 => ?_)
      · skip
        have hkN : k12 = Nn := (kEnd hk12 rfl hn (by omega) c15)
        rw [hkN] at hacc12
        have hR2 : (fX3_isBoundWithin an kd pl fi N Nn t) = aX3_isBoundWithin_12  v4_12 := hR1.trans (lq_end (x := v4_12) (g := (fun a => aX3_isBoundWithin_12  a)) hacc12)
        refine lv_iconst (v := 0) hx hb dX3_isBoundWithin_55 (by decide) ?_
        have hR3 : (fX3_isBoundWithin an kd pl fi N Nn t) = 0 := hR2.trans rfl
        rw [hQ]
        exact W.zret (v := 0) (ty := .boolean) hx hb hr rfl (fun t ht hW => ⟨_, rfl, hR3.symm, ht⟩) (fun q h => by cases h) dX3_isBoundWithin_56
      have hlt12 : k12 < Nn := (kLt hk12 rfl hn c15)
      refine lv_aload_n hx hb dX3_isBoundWithin_18 rfl (lv_at hl 1 rfl) ?_
      refine lv_iload hx hb dX3_isBoundWithin_19 (lv_at hl 4 rfl) ?_
      refine kPi (va_runV (As := [.int v4_12]) (rest := []) ⟨hx, hb, hml, hown, hts⟩ (c_X0_askOf l D cI cS p0 p1 p2 p3 p4 al wo fi ni pa v4_12) (cwV 1 hts gX3_isBoundWithin_X0_askOf rfl rfl rfl q_X0_askOf ⟨Nat.le_of_ble_eq_true rfl, Nat.le_of_ble_eq_true rfl⟩) (kPV hK hP [5, 6, 7, 8, 9] rfl (va_recv hK.1 hP (ci := 0) (q0 := 5) rfl rfl) [.int v4_12]) rfl rfl hl.1 rfl (lv_room (Nat.le_of_ble_eq_true rfl)) dX3_isBoundWithin_21 ⟨Nat.zero_le _, Nat.zero_le _⟩) ?_
      refine lv_istore (lv' := [(6, .int (fX0_askOf fi v4_12)), (0, .ref h), (1, .ref p0), (2, .int t), (3, .int nn), (4, .int v4_12), (5, .int (nI k12))]) hx hb dX3_isBoundWithin_24 hl (by decide) rfl (fun ls hl => ?_)
      refine lv_iload hx hb dX3_isBoundWithin_26 (lv_at hl 0 rfl) ?_
      refine lv_iload_n hx hb dX3_isBoundWithin_28 rfl (lv_at hl 3 rfl) ?_
      refine lv_icmp_ne (tgt := 34) hx hb dX3_isBoundWithin_29 (by decide) (fun c29 => ?_) (fun c29 => ?_)
      · skip
        refine lv_iload hx hb dX3_isBoundWithin_34 (lv_at hl 5 rfl) ?_
        refine lv_aload_n hx hb dX3_isBoundWithin_36 rfl (lv_at hl 1 rfl) ?_
        refine va_get (D := D) (ci := 3) (v := .ref cu) (C := RX3) (T := TX3) (N := 10) hx hb hts (fun _ h => List.mem_cons_of_mem _ (List.mem_append_left _ (List.mem_append_left _ (List.mem_append_right _ h)))) hown hK.1 hP 0 rfl rfl 4 (by decide) (hts (.fieldLink RX3 34 "LieNights" "secret" "LLieNights$Secret;") (List.mem_of_getElem? (i := 1) rfl)) (fun _ h9 => h9) rfl dX3_isBoundWithin_37 ?_
        refine lv_iload hx hb dX3_isBoundWithin_40 (lv_at hl 0 rfl) ?_
        refine lv_iload_n hx hb dX3_isBoundWithin_42 rfl (lv_at hl 3 rfl) ?_
        refine kPi (va_runV (As := [.int (fX0_askOf fi v4_12), .int t]) (rest := [.int v4_12]) ⟨hx, hb, hml, hown, hts⟩ (c_X1_alike l D cI cS cu q1 q2 q3 an pn gr kd pl wt N (fX0_askOf fi v4_12) t ha hN) (cwV 2 hts gX3_isBoundWithin_X1_alike rfl rfl rfl q_X1_alike ⟨Nat.le_of_ble_eq_true rfl, Nat.le_of_ble_eq_true rfl⟩) (kPV hK hP [1, 2, 3, 4] rfl (va_recv hK.1 hP (ci := 1) (q0 := 1) rfl rfl) [.int (fX0_askOf fi v4_12), .int t]) rfl rfl hl.1 rfl (lv_room (Nat.le_of_ble_eq_true rfl)) dX3_isBoundWithin_43 ⟨Nat.zero_le _, Nat.zero_le _⟩) ?_
        refine lv_iand hx hb dX3_isBoundWithin_46 ?_
        refine lv_istore (lv' := [(4, .int (v4_12 &&& (fX1_alike kd pl N (fX0_askOf fi v4_12) t))), (6, .int (fX0_askOf fi v4_12)), (0, .ref h), (1, .ref p0), (2, .int t), (3, .int nn), (5, .int (nI k12))]) hx hb dX3_isBoundWithin_47 hl (by decide) rfl (fun ls hl => ?_)
        refine lv_iinc (v := (nI (k12 + 1))) (lv' := [(5, .int (nI (k12 + 1))), (4, .int (v4_12 &&& (fX1_alike kd pl N (fX0_askOf fi v4_12) t))), (6, .int (fX0_askOf fi v4_12)), (0, .ref h), (1, .ref p0), (2, .int t), (3, .int nn)]) hx hb dX3_isBoundWithin_49 hl (k := 6) rfl (nI_1 (k12)) (by decide) rfl (fun ls hl => ?_)
        refine lv_goto (tgt := 12) hx hb dX3_isBoundWithin_52 (by decide) ?_
        have hR4 : sX3_isBoundWithin_12 kd pl fi N t k12 v4_12 = (.inl (v4_12 &&& (fX1_alike kd pl N (fX0_askOf fi v4_12) t))) := (by unfold sX3_isBoundWithin_12; rw [if_neg c29])
        exact ih12 (k12 + 1) hlt12 (by omega) _ (lq_next hacc12 hR4)  ls (lv_sub hl [3, 4, 5, 6, 1, 0] rfl)
      refine lv_iconst (v := 1) hx hb dX3_isBoundWithin_32 (by decide) ?_
      have hR5 : sX3_isBoundWithin_12 kd pl fi N t k12 v4_12 = (.inr 1) := (by unfold sX3_isBoundWithin_12; rw [if_pos c29])
      have hR6 : (fX3_isBoundWithin an kd pl fi N Nn t) = 1 := hR1.trans (lq_exit hacc12 hR5 hlt12)
      rw [hQ]
      exact W.zret (v := 1) (ty := .boolean) hx hb hr rfl (fun t ht hW => ⟨_, rfl, hR6.symm, ht⟩) (fun q h => by cases h) dX3_isBoundWithin_33
  exact loop12 (Nn + 1) 0 (Nat.zero_le _) (by omega) _ rfl  ls (lv_sub hl [2, 3, 4, 5, 1, 0] rfl)

def aX3_areReadingsSo_2 (z_2 : Unit) : Int32 := 1
def sX3_areReadingsSo_2 (kd pl ask shw : Nat → Int32) (t : Int32) (k2 : Nat) (z_2 : Unit) : (Unit) ⊕ Int32 := (if (fX1_shownBy kd pl (fX3_at 8 ask (nI k2)) t) = (fX3_at 8 shw (nI k2)) then (.inl ()) else (.inr 0))
def fX3_areReadingsSo (kd pl ask shw : Nat → Int32) (Rn : Nat) (t : Int32) : Int32 := (lqr (lq (fun k a => sX3_areReadingsSo_2 kd pl ask shw t k a) () Rn) (fun a => aX3_areReadingsSo_2  a))
theorem q_X3_areReadingsSo : yX3_areReadingsSo.cls = RX3 ∧ yX3_areReadingsSo.cls ≠ "java/lang/invoke/MethodHandle" ∧ yX3_areReadingsSo.cls ≠ "java/lang/invoke/VarHandle" ∧ (parseMethodDescriptor yX3_areReadingsSo.desc).map (fun d => d.parameters.length) = some 1 := by decide +kernel
set_option maxHeartbeats 4000000 in
set_option maxRecDepth 100000 in
theorem c_X3_areReadingsSo (l : Launch) (D : va_G) (cI cS : ClassId) (h sa p0 aa ab cu sp q1 q2 q3 : Nat) (old rd tr lf an pn gr : Int32) (kd pl wt ask shw : Nat → Int32) (Rn : Nat) (t : Int32) (hrd : rd = nI Rn) (hRn : Rn ≤ 8) : PMi l yX3_areReadingsSo wsX3_areReadingsSo { frames := 2, cells := 0, slots := 0, locals := 44 } D cI cS (wL8 cI h sa p0 aa ab cu sp q1 q2 q3 old rd tr lf an pn gr kd pl wt ask shw) [.ref h, .int t] (fX3_areReadingsSo kd pl ask shw Rn t) := by
  refine kEnter (cc := cX3_areReadingsSo) (maxL := 3) (ret := (some .boolean)) (by decide) rfl (Nat.le_of_ble_eq_true rfl) ?_
  intro p e s m below meth c ls Qf hQ hx hb hml hr hlocks hown hts hK hP hl
  have hown : s.vm.findClass RX3 = some m.cls := hown
  have hl : lv_has ls 3 [(0, .ref h), (1, .int t)] := hl
  refine lv_iconst (v := 0) hx hb dX3_areReadingsSo_0 (by decide) ?_
  refine lv_istore_n (lv' := [(2, .int 0), (0, .ref h), (1, .int t)]) hx hb dX3_areReadingsSo_1 rfl hl (by decide) rfl (fun ls hl => ?_)
  have hR1 : (fX3_areReadingsSo kd pl ask shw Rn t) = (lqr (lq (fun k a => sX3_areReadingsSo_2 kd pl ask shw t k a) () Rn) (fun a => aX3_areReadingsSo_2  a)) := rfl
  have loop2 : ∀ (n k2 : Nat), k2 ≤ Rn → Rn + 1 ≤ k2 + n → ∀ (z_2 : Unit), lq (fun k a => sX3_areReadingsSo_2 kd pl ask shw t k a) () k2 = Sum.inl z_2 →  ∀ (ls : Array Slot), lv_has ls 3 [(0, .ref h), (1, .int t), (2, .int (nI k2))] → W p l e { frames := 2, cells := 0, slots := 0, locals := 44 } s m ([.ref h, .int t] : List Value).toArray below meth c s.heap [] 0 0 Qf (F0 m 2 ls []) := by
    intro n
    induction n with
    | zero => intro k2 h1 h2; exact absurd h2 (by omega)
    | succ n ih =>
      intro k2 hk2 hn2 z_2 hacc2  ls hl
      have ih2 := ih
      refine lv_iload_n hx hb dX3_areReadingsSo_2 rfl (lv_at hl 2 rfl) ?_
      refine lv_aload_n hx hb dX3_areReadingsSo_3 rfl (lv_at hl 0 rfl) ?_
      refine va_get (D := D) (ci := 3) (v := .int rd) (C := RX3) (T := TX3) (N := 10) hx hb hts (fun _ h => List.mem_cons_of_mem _ (List.mem_append_left _ (List.mem_append_right _ h))) hown hK.1 hP 0 rfl rfl 7 (by decide) (hts (.fieldLink RX3 161 "LieNights" "readings" "I") (List.mem_of_getElem? (i := 1) rfl)) (fun _ h9 => h9) rfl dX3_areReadingsSo_4 ?_
      refine lv_icmp_ge (tgt := 45) hx hb dX3_areReadingsSo_7 (by decide) (fun c7 => ?_) (fun c7 => ?_)
      · skip
        have hkN : k2 = Rn := (kEnd hk2 rfl hrd (by omega) c7)
        rw [hkN] at hacc2
        have hR2 : (fX3_areReadingsSo kd pl ask shw Rn t) = aX3_areReadingsSo_2  z_2 := hR1.trans (lq_end (x := z_2) (g := (fun a => aX3_areReadingsSo_2  a)) hacc2)
        refine lv_iconst (v := 1) hx hb dX3_areReadingsSo_45 (by decide) ?_
        have hR3 : (fX3_areReadingsSo kd pl ask shw Rn t) = 1 := hR2.trans rfl
        rw [hQ]
        exact W.zret (v := 1) (ty := .boolean) hx hb hr rfl (fun t ht hW => ⟨_, rfl, hR3.symm, ht⟩) (fun q h => by cases h) dX3_areReadingsSo_46
      have hlt2 : k2 < Rn := (kLt hk2 rfl hrd c7)
      refine lv_aload_n hx hb dX3_areReadingsSo_10 rfl (lv_at hl 0 rfl) ?_
      refine va_get (D := D) (ci := 3) (v := .ref cu) (C := RX3) (T := TX3) (N := 10) hx hb hts (fun _ h => List.mem_cons_of_mem _ (List.mem_append_left _ (List.mem_append_right _ h))) hown hK.1 hP 0 rfl rfl 4 (by decide) (hts (.fieldLink RX3 34 "LieNights" "secret" "LLieNights$Secret;") (List.mem_of_getElem? (i := 2) rfl)) (fun _ h9 => h9) rfl dX3_areReadingsSo_11 ?_
      refine lv_aload_n hx hb dX3_areReadingsSo_14 rfl (lv_at hl 0 rfl) ?_
      refine va_get (D := D) (ci := 3) (v := .ref aa) (C := RX3) (T := TX3) (N := 10) hx hb hts (fun _ h => List.mem_cons_of_mem _ (List.mem_append_left _ (List.mem_append_right _ h))) hown hK.1 hP 0 rfl rfl 2 (by decide) (hts (.fieldLink RX3 24 "LieNights" "asked" "[I") (List.mem_of_getElem? (i := 3) rfl)) (fun _ h9 => h9) rfl dX3_areReadingsSo_15 ?_
      refine lv_iload_n hx hb dX3_areReadingsSo_18 rfl (lv_at hl 2 rfl) ?_
      refine kPi (va_runS (As := [.ref aa, .int (nI k2)]) (rest := [.ref cu]) ⟨hx, hb, hml, hown, hts⟩ (c_X3_at l D cI cS aa 8 ask (nI k2) (by decide)) (va_cwS 2 hts gX3_areReadingsSo_X3_at rfl rfl rfl q_X3_at.2 ⟨Nat.le_of_ble_eq_true rfl, Nat.le_of_ble_eq_true rfl⟩) (kPS hK hP [5] rfl [.ref aa, .int (nI k2)]) rfl rfl hl.1 rfl (lv_room (Nat.le_of_ble_eq_true rfl)) dX3_areReadingsSo_19 ⟨Nat.zero_le _, Nat.zero_le _⟩) ?_
      refine lv_iload_n hx hb dX3_areReadingsSo_22 rfl (lv_at hl 1 rfl) ?_
      refine kPi (va_runV (As := [.int (fX3_at 8 ask (nI k2)), .int t]) (rest := []) ⟨hx, hb, hml, hown, hts⟩ (c_X1_shownBy l D cI cS cu q1 q2 q3 an pn gr kd pl wt (fX3_at 8 ask (nI k2)) t) (cwV 2 hts gX3_areReadingsSo_X1_shownBy rfl rfl rfl q_X1_shownBy ⟨Nat.le_of_ble_eq_true rfl, Nat.le_of_ble_eq_true rfl⟩) (kPV hK hP [1, 2, 3, 4] rfl (va_recv hK.1 hP (ci := 1) (q0 := 1) rfl rfl) [.int (fX3_at 8 ask (nI k2)), .int t]) rfl rfl hl.1 rfl (lv_room (Nat.le_of_ble_eq_true rfl)) dX3_areReadingsSo_23 ⟨Nat.zero_le _, Nat.zero_le _⟩) ?_
      refine lv_aload_n hx hb dX3_areReadingsSo_26 rfl (lv_at hl 0 rfl) ?_
      refine va_get (D := D) (ci := 3) (v := .ref ab) (C := RX3) (T := TX3) (N := 10) hx hb hts (fun _ h => List.mem_cons_of_mem _ (List.mem_append_left _ (List.mem_append_right _ h))) hown hK.1 hP 0 rfl rfl 3 (by decide) (hts (.fieldLink RX3 28 "LieNights" "showed" "[I") (List.mem_of_getElem? (i := 4) rfl)) (fun _ h9 => h9) rfl dX3_areReadingsSo_27 ?_
      refine lv_iload_n hx hb dX3_areReadingsSo_30 rfl (lv_at hl 2 rfl) ?_
      refine kPi (va_runS (As := [.ref ab, .int (nI k2)]) (rest := [.int (fX1_shownBy kd pl (fX3_at 8 ask (nI k2)) t)]) ⟨hx, hb, hml, hown, hts⟩ (c_X3_at l D cI cS ab 8 shw (nI k2) (by decide)) (va_cwS 2 hts gX3_areReadingsSo_X3_at rfl rfl rfl q_X3_at.2 ⟨Nat.le_of_ble_eq_true rfl, Nat.le_of_ble_eq_true rfl⟩) (kPS hK hP [6] rfl [.ref ab, .int (nI k2)]) rfl rfl hl.1 rfl (lv_room (Nat.le_of_ble_eq_true rfl)) dX3_areReadingsSo_31 ⟨Nat.zero_le _, Nat.zero_le _⟩) ?_
      refine lv_icmp_eq (tgt := 39) hx hb dX3_areReadingsSo_34 (by decide) (fun c34 => ?_) (fun c34 => ?_)
      · skip
        refine lv_iinc (v := (nI (k2 + 1))) (lv' := [(2, .int (nI (k2 + 1))), (0, .ref h), (1, .int t)]) hx hb dX3_areReadingsSo_39 hl (k := 2) rfl (nI_1 (k2)) (by decide) rfl (fun ls hl => ?_)
        refine lv_goto (tgt := 2) hx hb dX3_areReadingsSo_42 (by decide) ?_
        have hR4 : sX3_areReadingsSo_2 kd pl ask shw t k2 z_2 = (.inl ()) := (by unfold sX3_areReadingsSo_2; rw [if_pos c34])
        exact ih2 (k2 + 1) hlt2 (by omega) _ (lq_next hacc2 hR4)  ls (lv_sub hl [1, 2, 0] rfl)
      refine lv_iconst (v := 0) hx hb dX3_areReadingsSo_37 (by decide) ?_
      have hR5 : sX3_areReadingsSo_2 kd pl ask shw t k2 z_2 = (.inr 0) := (by unfold sX3_areReadingsSo_2; rw [if_neg c34])
      have hR6 : (fX3_areReadingsSo kd pl ask shw Rn t) = 0 := hR1.trans (lq_exit hacc2 hR5 hlt2)
      rw [hQ]
      exact W.zret (v := 0) (ty := .boolean) hx hb hr rfl (fun t ht hW => ⟨_, rfl, hR6.symm, ht⟩) (fun q h => by cases h) dX3_areReadingsSo_38
  exact loop2 (Rn + 1) 0 (Nat.zero_le _) (by omega) _ rfl  ls (lv_sub hl [1, 2, 0] rfl)

def aX3_truths_4 (v1_4 : Int32) : Int32 := v1_4
def sX3_truths_4 (kd pl ask shw : Nat → Int32) (Rn k4 : Nat) (v1_4 : Int32) : (Int32) := (if (fX3_areReadingsSo kd pl ask shw Rn (nI k4)) = 0 then v1_4 else (v1_4 ||| (1 <<< ((nI k4) &&& 31))))
def fX3_truths (kd pl ask shw : Nat → Int32) (N Rn : Nat) : Int32 := (aX3_truths_4  (lp (fun k a => sX3_truths_4 kd pl ask shw Rn k a) 0 N))
theorem q_X3_truths : yX3_truths.cls = RX3 ∧ yX3_truths.cls ≠ "java/lang/invoke/MethodHandle" ∧ yX3_truths.cls ≠ "java/lang/invoke/VarHandle" ∧ (parseMethodDescriptor yX3_truths.desc).map (fun d => d.parameters.length) = some 0 := by decide +kernel
set_option maxHeartbeats 4000000 in
set_option maxRecDepth 100000 in
theorem c_X3_truths (l : Launch) (D : va_G) (cI cS : ClassId) (h sa p0 aa ab cu sp q1 q2 q3 : Nat) (old rd tr lf an pn gr : Int32) (kd pl wt ask shw : Nat → Int32) (N Rn : Nat) (ha : an = nI N) (hN : N ≤ 6) (hrd : rd = nI Rn) (hRn : Rn ≤ 8) : PMi l yX3_truths wsX3_truths { frames := 3, cells := 0, slots := 0, locals := 66 } D cI cS (wL8 cI h sa p0 aa ab cu sp q1 q2 q3 old rd tr lf an pn gr kd pl wt ask shw) [.ref h] (fX3_truths kd pl ask shw N Rn) := by
  refine kEnter (cc := cX3_truths) (maxL := 3) (ret := (some .int)) (by decide) rfl (Nat.le_of_ble_eq_true rfl) ?_
  intro p e s m below meth c ls Qf hQ hx hb hml hr hlocks hown hts hK hP hl
  have hown : s.vm.findClass RX3 = some m.cls := hown
  have hl : lv_has ls 3 [(0, .ref h)] := hl
  refine lv_iconst (v := 0) hx hb dX3_truths_0 (by decide) ?_
  refine lv_istore_n (lv' := [(1, .int 0), (0, .ref h)]) hx hb dX3_truths_1 rfl hl (by decide) rfl (fun ls hl => ?_)
  refine lv_iconst (v := 0) hx hb dX3_truths_2 (by decide) ?_
  refine lv_istore_n (lv' := [(2, .int 0), (1, .int 0), (0, .ref h)]) hx hb dX3_truths_3 rfl hl (by decide) rfl (fun ls hl => ?_)
  have hR1 : (fX3_truths kd pl ask shw N Rn) = (aX3_truths_4  (lp (fun k a => sX3_truths_4 kd pl ask shw Rn k a) 0 N)) := rfl
  have loop4 : ∀ (n k4 : Nat), k4 ≤ N → N + 1 ≤ k4 + n → ∀ (v1_4 : Int32), lp (fun k a => sX3_truths_4 kd pl ask shw Rn k a) 0 k4 = v1_4 →  ∀ (ls : Array Slot), lv_has ls 3 [(0, .ref h), (1, .int v1_4), (2, .int (nI k4))] → W p l e { frames := 3, cells := 0, slots := 0, locals := 66 } s m ([.ref h] : List Value).toArray below meth c s.heap [] 0 0 Qf (F0 m 4 ls []) := by
    intro n
    induction n with
    | zero => intro k4 h1 h2; exact absurd h2 (by omega)
    | succ n ih =>
      intro k4 hk4 hn4 v1_4 hacc4  ls hl
      have ih4 := ih
      refine lv_iload_n hx hb dX3_truths_4 rfl (lv_at hl 2 rfl) ?_
      refine lv_aload_n hx hb dX3_truths_5 rfl (lv_at hl 0 rfl) ?_
      refine va_get (D := D) (ci := 3) (v := .ref cu) (C := RX3) (T := TX3) (N := 10) hx hb hts (fun _ h => List.mem_cons_of_mem _ (List.mem_append_left _ (List.mem_append_right _ h))) hown hK.1 hP 0 rfl rfl 4 (by decide) (hts (.fieldLink RX3 34 "LieNights" "secret" "LLieNights$Secret;") (List.mem_of_getElem? (i := 1) rfl)) (fun _ h9 => h9) rfl dX3_truths_6 ?_
      refine kPi (va_runV (As := []) (rest := [.int (nI k4)]) ⟨hx, hb, hml, hown, hts⟩ (c_X1_answers l D cI cS cu q1 q2 q3 an pn gr kd pl wt) (cwV 0 hts gX3_truths_X1_answers rfl rfl rfl q_X1_answers ⟨Nat.le_of_ble_eq_true rfl, Nat.le_of_ble_eq_true rfl⟩) (kPV hK hP [1, 2, 3, 4] rfl (va_recv hK.1 hP (ci := 1) (q0 := 1) rfl rfl) []) rfl rfl hl.1 rfl (lv_room (Nat.le_of_ble_eq_true rfl)) dX3_truths_9 ⟨Nat.zero_le _, Nat.zero_le _⟩) ?_
      refine lv_icmp_ge (tgt := 35) hx hb dX3_truths_12 (by decide) (fun c12 => ?_) (fun c12 => ?_)
      · skip
        have hkN : k4 = N := (kEnd hk4 rfl ha (by omega) c12)
        rw [hkN] at hacc4
        have hR2 : (fX3_truths kd pl ask shw N Rn) = aX3_truths_4  v1_4 := hR1.trans (lp_end (x := v1_4) (g := (fun a => aX3_truths_4  a)) hacc4)
        refine lv_iload_n hx hb dX3_truths_35 rfl (lv_at hl 1 rfl) ?_
        have hR3 : (fX3_truths kd pl ask shw N Rn) = v1_4 := hR2.trans rfl
        rw [hQ]
        exact W.iret (v := v1_4) hx hb hr (fun t ht hW => ⟨_, rfl, hR3.symm, ht⟩) (fun q h => by cases h) dX3_truths_36
      have hlt4 : k4 < N := (kLt hk4 rfl ha c12)
      refine lv_aload_n hx hb dX3_truths_15 rfl (lv_at hl 0 rfl) ?_
      refine lv_iload_n hx hb dX3_truths_16 rfl (lv_at hl 2 rfl) ?_
      refine kPi (va_runV (As := [.int (nI k4)]) (rest := []) ⟨hx, hb, hml, hown, hts⟩ (c_X3_areReadingsSo l D cI cS h sa p0 aa ab cu sp q1 q2 q3 old rd tr lf an pn gr kd pl wt ask shw Rn (nI k4) hrd hRn) (cwV 1 hts gX3_truths_X3_areReadingsSo rfl rfl rfl q_X3_areReadingsSo ⟨Nat.le_of_ble_eq_true rfl, Nat.le_of_ble_eq_true rfl⟩) (kPV hK hP [0, 1, 2, 3, 4, 5, 6] rfl (va_recv hK.1 hP (ci := 3) (q0 := 0) rfl rfl) [.int (nI k4)]) rfl rfl hl.1 rfl (lv_room (Nat.le_of_ble_eq_true rfl)) dX3_truths_17 ⟨Nat.zero_le _, Nat.zero_le _⟩) ?_
      refine lv_if_eq (tgt := 29) hx hb dX3_truths_20 (by decide) (fun c20 => ?_) (fun c20 => ?_)
      · skip
        refine lv_iinc (v := (nI (k4 + 1))) (lv' := [(2, .int (nI (k4 + 1))), (0, .ref h), (1, .int v1_4)]) hx hb dX3_truths_29 hl (k := 2) rfl (nI_1 (k4)) (by decide) rfl (fun ls hl => ?_)
        refine lv_goto (tgt := 4) hx hb dX3_truths_32 (by decide) ?_
        have hR4 : sX3_truths_4 kd pl ask shw Rn k4 v1_4 = v1_4 := (by unfold sX3_truths_4; rw [if_pos c20])
        exact ih4 (k4 + 1) hlt4 (by omega) _ (lp_next hacc4 hR4)  ls (lv_sub hl [1, 2, 0] rfl)
      refine lv_iload_n hx hb dX3_truths_23 rfl (lv_at hl 1 rfl) ?_
      refine lv_iconst (v := 1) hx hb dX3_truths_24 (by decide) ?_
      refine lv_iload_n hx hb dX3_truths_25 rfl (lv_at hl 2 rfl) ?_
      refine lv_ishl hx hb dX3_truths_26 ?_
      refine lv_ior hx hb dX3_truths_27 ?_
      refine lv_istore_n (lv' := [(1, .int (v1_4 ||| (1 <<< ((nI k4) &&& 31)))), (0, .ref h), (2, .int (nI k4))]) hx hb dX3_truths_28 rfl hl (by decide) rfl (fun ls hl => ?_)
      refine lv_iinc (v := (nI (k4 + 1))) (lv' := [(2, .int (nI (k4 + 1))), (1, .int (v1_4 ||| (1 <<< ((nI k4) &&& 31)))), (0, .ref h)]) hx hb dX3_truths_29 hl (k := 2) rfl (nI_1 (k4)) (by decide) rfl (fun ls hl => ?_)
      refine lv_goto (tgt := 4) hx hb dX3_truths_32 (by decide) ?_
      have hR5 : sX3_truths_4 kd pl ask shw Rn k4 v1_4 = (v1_4 ||| (1 <<< ((nI k4) &&& 31))) := (by unfold sX3_truths_4; rw [if_neg c20])
      exact ih4 (k4 + 1) hlt4 (by omega) _ (lp_next hacc4 hR5)  ls (lv_sub hl [2, 1, 0] rfl)
  exact loop4 (N + 1) 0 (Nat.zero_le _) (by omega) _ rfl  ls (lv_sub hl [2, 1, 0] rfl)

def aX3_shareNumber_13 (v3_13 : Int32) : Int64 := (Int32.toInt64 v3_13)
def sX3_shareNumber_13 (Lw : Nat) (up lo : Int32) (k13 : Nat) (v3_13 : Int32) : (Int32) ⊕ Int64 := (if (up - up / (nI (Lw - k13)) * (nI (Lw - k13))) = 0 then (if (lo - lo / (nI (Lw - k13)) * (nI (Lw - k13))) = 0 then (.inr (Int32.toInt64 (v3_13 / (nI (Lw - k13))))) else (.inl v3_13)) else (.inl v3_13))
def fX3_shareNumber (Lw : Nat) (up lo wh : Int32) : Int64 := (if wh = 0 then (lqr (lq (fun k a => sX3_shareNumber_13 Lw up lo k a) up (Lw - 1)) (fun a => aX3_shareNumber_13  a)) else (lqr (lq (fun k a => sX3_shareNumber_13 Lw up lo k a) lo (Lw - 1)) (fun a => aX3_shareNumber_13  a)))
theorem q_X3_shareNumber : yX3_shareNumber.cls = RX3 ∧ yX3_shareNumber.cls ≠ "java/lang/invoke/MethodHandle" ∧ yX3_shareNumber.cls ≠ "java/lang/invoke/VarHandle" ∧ (parseMethodDescriptor yX3_shareNumber.desc).map (fun d => d.parameters.length) = some 3 := by decide +kernel
set_option maxHeartbeats 4000000 in
set_option maxRecDepth 100000 in
theorem c_X3_shareNumber (l : Launch) (D : va_G) (cI cS : ClassId) (Lw : Nat) (up lo wh : Int32) (hlw : lo = nI Lw) (hLw : Lw < 2 ^ 31) : PMl l yX3_shareNumber wsX3_shareNumber { frames := 0, cells := 0, slots := 0, locals := 0 } D cI cS [] [.int up, .int lo, .int wh] (fX3_shareNumber Lw up lo wh) := by
  refine kEnter (cc := cX3_shareNumber) (maxL := 5) (ret := (some .long)) (by decide) rfl (Nat.le_of_ble_eq_true rfl) ?_
  intro p e s m below meth c ls Qf hQ hx hb hml hr hlocks hown hts hK hP hl
  have hown : s.vm.findClass RX3 = some m.cls := hown
  have hl : lv_has ls 5 [(0, .int up), (1, .int lo), (2, .int wh)] := hl
  refine lv_iload_n hx hb dX3_shareNumber_0 rfl (lv_at hl 2 rfl) ?_
  refine lv_if_ne (tgt := 8) hx hb dX3_shareNumber_1 (by decide) (fun c1 => ?_) (fun c1 => ?_)
  · skip
    refine lv_iload_n hx hb dX3_shareNumber_8 rfl (lv_at hl 1 rfl) ?_
    refine lv_istore_n (lv' := [(3, .int lo), (0, .int up), (1, .int lo), (2, .int wh)]) hx hb dX3_shareNumber_9 rfl hl (by decide) rfl (fun ls hl => ?_)
    refine lv_iload_n hx hb dX3_shareNumber_10 rfl (lv_at hl 2 rfl) ?_
    refine lv_istore (lv' := [(4, .int lo), (3, .int lo), (0, .int up), (1, .int lo), (2, .int wh)]) hx hb dX3_shareNumber_11 hl (by decide) rfl (fun ls hl => ?_)
    have hR1 : (fX3_shareNumber Lw up lo wh) = (lqr (lq (fun k a => sX3_shareNumber_13 Lw up lo k a) lo (Lw - 1)) (fun a => aX3_shareNumber_13  a)) := (by unfold fX3_shareNumber; rw [if_neg c1])
    have loop13 : ∀ (n k13 : Nat), k13 ≤ (Lw - 1) → (Lw - 1) + 1 ≤ k13 + n → ∀ (v3_13 : Int32), lq (fun k a => sX3_shareNumber_13 Lw up lo k a) lo k13 = Sum.inl v3_13 →  ∀ (ls : Array Slot), lv_has ls 5 [(0, .int up), (1, .int lo), (2, .int wh), (3, .int v3_13), (4, .int (nI (Lw - k13)))] → W p l e { frames := 0, cells := 0, slots := 0, locals := 0 } s m ([.int up, .int lo, .int wh] : List Value).toArray below meth c s.heap [] 0 0 Qf (F0 m 13 ls []) := by
      intro n
      induction n with
      | zero => intro k13 h1 h2; exact absurd h2 (by omega)
      | succ n ih =>
        intro k13 hk13 hn13 v3_13 hacc13  ls hl
        have ih13 := ih
        refine lv_iload hx hb dX3_shareNumber_13 (lv_at hl 4 rfl) ?_
        refine lv_iconst (v := 1) hx hb dX3_shareNumber_15 (by decide) ?_
        refine lv_icmp_le (tgt := 45) hx hb dX3_shareNumber_16 (by decide) (fun c16 => ?_) (fun c16 => ?_)
        · skip
          have hkN : k13 = (Lw - 1) := (kShE hk13 hLw c16)
          rw [hkN] at hacc13
          have hR2 : (fX3_shareNumber Lw up lo wh) = aX3_shareNumber_13  v3_13 := hR1.trans (lq_end (x := v3_13) (g := (fun a => aX3_shareNumber_13  a)) hacc13)
          refine lv_iload_n hx hb dX3_shareNumber_45 rfl (lv_at hl 3 rfl) ?_
          refine lv_i2l (v := Int32.toInt64 v3_13) hx hb dX3_shareNumber_46 rfl ?_
          have hR3 : (fX3_shareNumber Lw up lo wh) = (Int32.toInt64 v3_13) := hR2.trans rfl
          rw [hQ]
          exact W.lret (v := (Int32.toInt64 v3_13)) hx hb hr (fun t ht hW => ⟨_, rfl, hR3.symm, ht⟩) (fun q h => by cases h) dX3_shareNumber_47
        have hlt13 : k13 < (Lw - 1) := (kShL hk13 c16)
        refine lv_iload_n hx hb dX3_shareNumber_19 rfl (lv_at hl 0 rfl) ?_
        refine lv_iload hx hb dX3_shareNumber_20 (lv_at hl 4 rfl) ?_
        refine lv_irem hx hb dX3_shareNumber_22 (kShN hlt13 hLw) ?_
        refine lv_if_ne (tgt := 39) hx hb dX3_shareNumber_23 (by decide) (fun c23 => ?_) (fun c23 => ?_)
        · skip
          refine lv_iinc (v := (nI (Lw - (k13 + 1)))) (lv' := [(4, .int (nI (Lw - (k13 + 1)))), (0, .int up), (1, .int lo), (2, .int wh), (3, .int v3_13)]) hx hb dX3_shareNumber_39 hl (k := 4) rfl (kShI hlt13) (by decide) rfl (fun ls hl => ?_)
          refine lv_goto (tgt := 13) hx hb dX3_shareNumber_42 (by decide) ?_
          have hR4 : sX3_shareNumber_13 Lw up lo k13 v3_13 = (.inl v3_13) := (by unfold sX3_shareNumber_13; rw [if_neg c23])
          exact ih13 (k13 + 1) hlt13 (by omega) _ (lq_next hacc13 hR4)  ls (lv_sub hl [1, 2, 3, 4, 0] rfl)
        refine lv_iload_n hx hb dX3_shareNumber_26 rfl (lv_at hl 1 rfl) ?_
        refine lv_iload hx hb dX3_shareNumber_27 (lv_at hl 4 rfl) ?_
        refine lv_irem hx hb dX3_shareNumber_29 (kShN hlt13 hLw) ?_
        refine lv_if_ne (tgt := 39) hx hb dX3_shareNumber_30 (by decide) (fun c30 => ?_) (fun c30 => ?_)
        · skip
          refine lv_iinc (v := (nI (Lw - (k13 + 1)))) (lv' := [(4, .int (nI (Lw - (k13 + 1)))), (0, .int up), (1, .int lo), (2, .int wh), (3, .int v3_13)]) hx hb dX3_shareNumber_39 hl (k := 4) rfl (kShI hlt13) (by decide) rfl (fun ls hl => ?_)
          refine lv_goto (tgt := 13) hx hb dX3_shareNumber_42 (by decide) ?_
          have hR5 : sX3_shareNumber_13 Lw up lo k13 v3_13 = (.inl v3_13) := (by unfold sX3_shareNumber_13; rw [if_pos c23, if_neg c30])
          exact ih13 (k13 + 1) hlt13 (by omega) _ (lq_next hacc13 hR5)  ls (lv_sub hl [1, 2, 3, 4, 0] rfl)
        refine lv_iload_n hx hb dX3_shareNumber_33 rfl (lv_at hl 3 rfl) ?_
        refine lv_iload hx hb dX3_shareNumber_34 (lv_at hl 4 rfl) ?_
        refine lv_idiv hx hb dX3_shareNumber_36 (kShN hlt13 hLw) ?_
        refine lv_i2l (v := Int32.toInt64 (v3_13 / (nI (Lw - k13)))) hx hb dX3_shareNumber_37 rfl ?_
        have hR6 : sX3_shareNumber_13 Lw up lo k13 v3_13 = (.inr (Int32.toInt64 (v3_13 / (nI (Lw - k13))))) := (by unfold sX3_shareNumber_13; rw [if_pos c23, if_pos c30])
        have hR7 : (fX3_shareNumber Lw up lo wh) = (Int32.toInt64 (v3_13 / (nI (Lw - k13)))) := hR1.trans (lq_exit hacc13 hR6 hlt13)
        rw [hQ]
        exact W.lret (v := (Int32.toInt64 (v3_13 / (nI (Lw - k13))))) hx hb hr (fun t ht hW => ⟨_, rfl, hR7.symm, ht⟩) (fun q h => by cases h) dX3_shareNumber_38
    exact loop13 ((Lw - 1) + 1) 0 (Nat.zero_le _) (by omega) _ rfl  ls (lv_sub hl [2, 3, 4, 1, 0] (by rw [hlw]; rfl))
  refine lv_iload_n hx hb dX3_shareNumber_4 rfl (lv_at hl 0 rfl) ?_
  refine lv_goto (tgt := 9) hx hb dX3_shareNumber_5 (by decide) ?_
  refine lv_istore_n (lv' := [(3, .int up), (0, .int up), (1, .int lo), (2, .int wh)]) hx hb dX3_shareNumber_9 rfl hl (by decide) rfl (fun ls hl => ?_)
  refine lv_iload_n hx hb dX3_shareNumber_10 rfl (lv_at hl 2 rfl) ?_
  refine lv_istore (lv' := [(4, .int lo), (3, .int up), (0, .int up), (1, .int lo), (2, .int wh)]) hx hb dX3_shareNumber_11 hl (by decide) rfl (fun ls hl => ?_)
  have hR8 : (fX3_shareNumber Lw up lo wh) = (lqr (lq (fun k a => sX3_shareNumber_13 Lw up lo k a) up (Lw - 1)) (fun a => aX3_shareNumber_13  a)) := (by unfold fX3_shareNumber; rw [if_pos c1])
  have loop13 : ∀ (n k13 : Nat), k13 ≤ (Lw - 1) → (Lw - 1) + 1 ≤ k13 + n → ∀ (v3_13 : Int32), lq (fun k a => sX3_shareNumber_13 Lw up lo k a) up k13 = Sum.inl v3_13 →  ∀ (ls : Array Slot), lv_has ls 5 [(0, .int up), (1, .int lo), (2, .int wh), (3, .int v3_13), (4, .int (nI (Lw - k13)))] → W p l e { frames := 0, cells := 0, slots := 0, locals := 0 } s m ([.int up, .int lo, .int wh] : List Value).toArray below meth c s.heap [] 0 0 Qf (F0 m 13 ls []) := by
    intro n
    induction n with
    | zero => intro k13 h1 h2; exact absurd h2 (by omega)
    | succ n ih =>
      intro k13 hk13 hn13 v3_13 hacc13  ls hl
      have ih13 := ih
      refine lv_iload hx hb dX3_shareNumber_13 (lv_at hl 4 rfl) ?_
      refine lv_iconst (v := 1) hx hb dX3_shareNumber_15 (by decide) ?_
      refine lv_icmp_le (tgt := 45) hx hb dX3_shareNumber_16 (by decide) (fun c16 => ?_) (fun c16 => ?_)
      · skip
        have hkN : k13 = (Lw - 1) := (kShE hk13 hLw c16)
        rw [hkN] at hacc13
        have hR9 : (fX3_shareNumber Lw up lo wh) = aX3_shareNumber_13  v3_13 := hR8.trans (lq_end (x := v3_13) (g := (fun a => aX3_shareNumber_13  a)) hacc13)
        refine lv_iload_n hx hb dX3_shareNumber_45 rfl (lv_at hl 3 rfl) ?_
        refine lv_i2l (v := Int32.toInt64 v3_13) hx hb dX3_shareNumber_46 rfl ?_
        have hR10 : (fX3_shareNumber Lw up lo wh) = (Int32.toInt64 v3_13) := hR9.trans rfl
        rw [hQ]
        exact W.lret (v := (Int32.toInt64 v3_13)) hx hb hr (fun t ht hW => ⟨_, rfl, hR10.symm, ht⟩) (fun q h => by cases h) dX3_shareNumber_47
      have hlt13 : k13 < (Lw - 1) := (kShL hk13 c16)
      refine lv_iload_n hx hb dX3_shareNumber_19 rfl (lv_at hl 0 rfl) ?_
      refine lv_iload hx hb dX3_shareNumber_20 (lv_at hl 4 rfl) ?_
      refine lv_irem hx hb dX3_shareNumber_22 (kShN hlt13 hLw) ?_
      refine lv_if_ne (tgt := 39) hx hb dX3_shareNumber_23 (by decide) (fun c23 => ?_) (fun c23 => ?_)
      · skip
        refine lv_iinc (v := (nI (Lw - (k13 + 1)))) (lv' := [(4, .int (nI (Lw - (k13 + 1)))), (0, .int up), (1, .int lo), (2, .int wh), (3, .int v3_13)]) hx hb dX3_shareNumber_39 hl (k := 4) rfl (kShI hlt13) (by decide) rfl (fun ls hl => ?_)
        refine lv_goto (tgt := 13) hx hb dX3_shareNumber_42 (by decide) ?_
        have hR11 : sX3_shareNumber_13 Lw up lo k13 v3_13 = (.inl v3_13) := (by unfold sX3_shareNumber_13; rw [if_neg c23])
        exact ih13 (k13 + 1) hlt13 (by omega) _ (lq_next hacc13 hR11)  ls (lv_sub hl [1, 2, 3, 4, 0] rfl)
      refine lv_iload_n hx hb dX3_shareNumber_26 rfl (lv_at hl 1 rfl) ?_
      refine lv_iload hx hb dX3_shareNumber_27 (lv_at hl 4 rfl) ?_
      refine lv_irem hx hb dX3_shareNumber_29 (kShN hlt13 hLw) ?_
      refine lv_if_ne (tgt := 39) hx hb dX3_shareNumber_30 (by decide) (fun c30 => ?_) (fun c30 => ?_)
      · skip
        refine lv_iinc (v := (nI (Lw - (k13 + 1)))) (lv' := [(4, .int (nI (Lw - (k13 + 1)))), (0, .int up), (1, .int lo), (2, .int wh), (3, .int v3_13)]) hx hb dX3_shareNumber_39 hl (k := 4) rfl (kShI hlt13) (by decide) rfl (fun ls hl => ?_)
        refine lv_goto (tgt := 13) hx hb dX3_shareNumber_42 (by decide) ?_
        have hR12 : sX3_shareNumber_13 Lw up lo k13 v3_13 = (.inl v3_13) := (by unfold sX3_shareNumber_13; rw [if_pos c23, if_neg c30])
        exact ih13 (k13 + 1) hlt13 (by omega) _ (lq_next hacc13 hR12)  ls (lv_sub hl [1, 2, 3, 4, 0] rfl)
      refine lv_iload_n hx hb dX3_shareNumber_33 rfl (lv_at hl 3 rfl) ?_
      refine lv_iload hx hb dX3_shareNumber_34 (lv_at hl 4 rfl) ?_
      refine lv_idiv hx hb dX3_shareNumber_36 (kShN hlt13 hLw) ?_
      refine lv_i2l (v := Int32.toInt64 (v3_13 / (nI (Lw - k13)))) hx hb dX3_shareNumber_37 rfl ?_
      have hR13 : sX3_shareNumber_13 Lw up lo k13 v3_13 = (.inr (Int32.toInt64 (v3_13 / (nI (Lw - k13))))) := (by unfold sX3_shareNumber_13; rw [if_pos c23, if_pos c30])
      have hR14 : (fX3_shareNumber Lw up lo wh) = (Int32.toInt64 (v3_13 / (nI (Lw - k13)))) := hR8.trans (lq_exit hacc13 hR13 hlt13)
      rw [hQ]
      exact W.lret (v := (Int32.toInt64 (v3_13 / (nI (Lw - k13))))) hx hb hr (fun t ht hW => ⟨_, rfl, hR14.symm, ht⟩) (fun q h => by cases h) dX3_shareNumber_38
  exact loop13 ((Lw - 1) + 1) 0 (Nat.zero_le _) (by omega) _ rfl  ls (lv_sub hl [2, 3, 4, 1, 0] (by rw [hlw]; rfl))

def fX3_tellPlain (tr : Int32) (pl : Nat → Int32) (x : Int32) : Int32 × Int32 := ((fX1_placeOf pl x), ((31 * tr) + 1))
theorem q_X3_tellPlain : yX3_tellPlain.cls = RX3 ∧ yX3_tellPlain.cls ≠ "java/lang/invoke/MethodHandle" ∧ yX3_tellPlain.cls ≠ "java/lang/invoke/VarHandle" ∧ (parseMethodDescriptor yX3_tellPlain.desc).map (fun d => d.parameters.length) = some 1 := by decide +kernel
set_option maxHeartbeats 4000000 in
set_option maxRecDepth 100000 in
theorem c_X3_tellPlain (l : Launch) (D : va_G) (cI cS : ClassId) (h sa p0 aa ab cu sp q1 q2 q3 : Nat) (old rd tr lf an pn gr : Int32) (kd pl wt : Nat → Int32) (x : Int32)  : MMi l yX3_tellPlain wsX3_tellPlain { frames := 2, cells := 0, slots := 0, locals := 42 } D cI cS (wL5 cI h sa p0 aa ab cu sp q1 q2 q3 old rd tr lf an pn gr kd pl wt) [.ref h, .int x] ((fX3_tellPlain tr pl x).1) (wL5 cI h sa p0 aa ab cu sp q1 q2 q3 old rd ((fX3_tellPlain tr pl x).2) lf an pn gr kd pl wt) := by
  refine kEnterM (cc := cX3_tellPlain) (maxL := 2) (ret := (some .int)) (by decide) rfl (Nat.le_of_ble_eq_true rfl) ?_
  intro p e s m below meth c ls Qf hQ hx hb hml hr hlocks hown hts hK hP hD hS hl
  have hown : s.vm.findClass RX3 = some m.cls := hown
  have hl : lv_has ls 2 [(0, .ref h), (1, .int x)] := hl
  generalize kA (wL5 cI h sa p0 aa ab cu sp q1 q2 q3 old rd tr lf an pn gr kd pl wt) = A at hQ hD hS
  refine lv_aload_n hx hb dX3_tellPlain_0 rfl (lv_at hl 0 rfl) ?_
  refine lv_iconst (v := 1) hx hb dX3_tellPlain_1 (by decide) ?_
  refine kMv (wl' := (wL5 cI h sa p0 aa ab cu sp q1 q2 q3 old rd ((31 * tr) + 1) lf an pn gr kd pl wt)) (wc := (wL1 cI h sa p0 aa ab cu sp old rd tr lf)) (w1 := (wL1 cI h sa p0 aa ab cu sp old rd ((31 * tr) + 1) lf)) hP hD hS [0] rfl rfl rfl (va_runV (As := [.int 1]) (rest := []) ⟨hx, hb, hml, hown, hts⟩ (c_X3_leave l D cI cS h sa p0 aa ab cu sp old rd tr lf 1) (cwV 1 hts gX3_tellPlain_X3_leave rfl rfl rfl q_X3_leave ⟨Nat.le_of_ble_eq_true rfl, Nat.le_of_ble_eq_true rfl⟩) (kMV hK hP hD [0] rfl rfl (va_recv hK.1 hP (ci := 3) (q0 := 0) rfl rfl) [.int 1]) rfl rfl hl.1 rfl (lv_room (Nat.le_of_ble_eq_true rfl)) dX3_tellPlain_2 ⟨Nat.zero_le _, Nat.zero_le _⟩) (fun H locs hP hD hS => ?_)
  obtain ⟨z1, hz1⟩ : ∃ z : Int32, z = ((31 * tr) + 1) := ⟨_, rfl⟩
  rw [← hz1] at hP hD
  refine lv_aload_n hx hb dX3_tellPlain_5 rfl (lv_at hl 0 rfl) ?_
  refine va_get (D := D) (ci := 3) (v := .ref cu) (C := RX3) (T := TX3) (N := 10) hx hb hts (fun _ h => List.mem_cons_of_mem _ (List.mem_append_left _ (List.mem_append_right _ h))) hown hK.1 hP 0 rfl rfl 4 (by decide) (hts (.fieldLink RX3 34 "LieNights" "secret" "LLieNights$Secret;") (List.mem_of_getElem? (i := 1) rfl)) (fun _ h9 => h9) rfl dX3_tellPlain_6 ?_
  refine lv_iload_n hx hb dX3_tellPlain_9 rfl (lv_at hl 1 rfl) ?_
  refine kPi (va_runV (As := [.int x]) (rest := []) ⟨hx, hb, hml, hown, hts⟩ (c_X1_placeOf l D cI cS cu q1 q2 q3 an pn gr kd pl wt x) (cwV 1 hts gX3_tellPlain_X1_placeOf rfl rfl rfl q_X1_placeOf ⟨Nat.le_of_ble_eq_true rfl, Nat.le_of_ble_eq_true rfl⟩) (kPV hK hP [1, 2, 3, 4] rfl (va_recv hK.1 hP (ci := 1) (q0 := 1) rfl rfl) [.int x]) rfl rfl hl.1 rfl (lv_room (Nat.le_of_ble_eq_true rfl)) dX3_tellPlain_10 ⟨Nat.zero_le _, Nat.zero_le _⟩) ?_
  subst hz1
  have hR2 : (fX3_tellPlain tr pl x) = ((fX1_placeOf pl x), ((31 * tr) + 1)) := rfl
  rw [hQ]
  exact W.iret (v := (fX1_placeOf pl x)) hx hb hr (fun t ht hW => ⟨⟨_, (), rfl, (by show _ = _; rw [hR2]), (by show va_P D vwCl _ t.heap; rw [hR2, ht]; exact hP)⟩, hS.F ht⟩) hS.2.2 dX3_tellPlain_13

def fX3_tellSly (tr : Int32) (pl : Nat → Int32) (x : Int32) : Int32 × Int32 := (((fX3_tellPlain ((31 * tr) + 2) pl x).1 + 100), (fX3_tellPlain ((31 * tr) + 2) pl x).2)
theorem q_X3_tellSly : yX3_tellSly.cls = RX3 ∧ yX3_tellSly.cls ≠ "java/lang/invoke/MethodHandle" ∧ yX3_tellSly.cls ≠ "java/lang/invoke/VarHandle" ∧ (parseMethodDescriptor yX3_tellSly.desc).map (fun d => d.parameters.length) = some 1 := by decide +kernel
set_option maxHeartbeats 4000000 in
set_option maxRecDepth 100000 in
theorem c_X3_tellSly (l : Launch) (D : va_G) (cI cS : ClassId) (h sa p0 aa ab cu sp q1 q2 q3 : Nat) (old rd tr lf an pn gr : Int32) (kd pl wt : Nat → Int32) (x : Int32)  : MMi l yX3_tellSly wsX3_tellSly { frames := 3, cells := 0, slots := 0, locals := 63 } D cI cS (wL5 cI h sa p0 aa ab cu sp q1 q2 q3 old rd tr lf an pn gr kd pl wt) [.ref h, .int x] ((fX3_tellSly tr pl x).1) (wL5 cI h sa p0 aa ab cu sp q1 q2 q3 old rd ((fX3_tellSly tr pl x).2) lf an pn gr kd pl wt) := by
  refine kEnterM (cc := cX3_tellSly) (maxL := 2) (ret := (some .int)) (by decide) rfl (Nat.le_of_ble_eq_true rfl) ?_
  intro p e s m below meth c ls Qf hQ hx hb hml hr hlocks hown hts hK hP hD hS hl
  have hown : s.vm.findClass RX3 = some m.cls := hown
  have hl : lv_has ls 2 [(0, .ref h), (1, .int x)] := hl
  generalize kA (wL5 cI h sa p0 aa ab cu sp q1 q2 q3 old rd tr lf an pn gr kd pl wt) = A at hQ hD hS
  refine lv_aload_n hx hb dX3_tellSly_0 rfl (lv_at hl 0 rfl) ?_
  refine lv_iconst (v := 2) hx hb dX3_tellSly_1 (by decide) ?_
  refine kMv (wl' := (wL5 cI h sa p0 aa ab cu sp q1 q2 q3 old rd ((31 * tr) + 2) lf an pn gr kd pl wt)) (wc := (wL1 cI h sa p0 aa ab cu sp old rd tr lf)) (w1 := (wL1 cI h sa p0 aa ab cu sp old rd ((31 * tr) + 2) lf)) hP hD hS [0] rfl rfl rfl (va_runV (As := [.int 2]) (rest := []) ⟨hx, hb, hml, hown, hts⟩ (c_X3_leave l D cI cS h sa p0 aa ab cu sp old rd tr lf 2) (cwV 1 hts gX3_tellSly_X3_leave rfl rfl rfl q_X3_leave ⟨Nat.le_of_ble_eq_true rfl, Nat.le_of_ble_eq_true rfl⟩) (kMV hK hP hD [0] rfl rfl (va_recv hK.1 hP (ci := 3) (q0 := 0) rfl rfl) [.int 2]) rfl rfl hl.1 rfl (lv_room (Nat.le_of_ble_eq_true rfl)) dX3_tellSly_2 ⟨Nat.zero_le _, Nat.zero_le _⟩) (fun H locs hP hD hS => ?_)
  obtain ⟨z1, hz1⟩ : ∃ z : Int32, z = ((31 * tr) + 2) := ⟨_, rfl⟩
  rw [← hz1] at hP hD
  refine lv_aload_n hx hb dX3_tellSly_5 rfl (lv_at hl 0 rfl) ?_
  refine lv_iload_n hx hb dX3_tellSly_6 rfl (lv_at hl 1 rfl) ?_
  refine kMi (wl' := (wL5 cI h sa p0 aa ab cu sp q1 q2 q3 old rd ((fX3_tellPlain z1 pl x).2) lf an pn gr kd pl wt)) (wc := (wL5 cI h sa p0 aa ab cu sp q1 q2 q3 old rd z1 lf an pn gr kd pl wt)) (w1 := (wL5 cI h sa p0 aa ab cu sp q1 q2 q3 old rd ((fX3_tellPlain z1 pl x).2) lf an pn gr kd pl wt)) hP hD hS [0, 1, 2, 3, 4] rfl rfl rfl (va_runV (As := [.int x]) (rest := []) ⟨hx, hb, hml, hown, hts⟩ (c_X3_tellPlain l D cI cS h sa p0 aa ab cu sp q1 q2 q3 old rd z1 lf an pn gr kd pl wt x) (cwV 1 hts gX3_tellSly_X3_tellPlain rfl rfl rfl q_X3_tellPlain ⟨Nat.le_of_ble_eq_true rfl, Nat.le_of_ble_eq_true rfl⟩) (kMV hK hP hD [0, 1, 2, 3, 4] rfl rfl (va_recv hK.1 hP (ci := 3) (q0 := 0) rfl rfl) [.int x]) rfl rfl hl.1 rfl (lv_room (Nat.le_of_ble_eq_true rfl)) dX3_tellSly_7 ⟨Nat.zero_le _, Nat.zero_le _⟩) (fun H locs hP hD hS => ?_)
  refine lv_bipush (v := 100) hx hb dX3_tellSly_10 (by decide) ?_
  refine lv_iadd hx hb dX3_tellSly_12 ?_
  subst hz1
  have hR2 : (fX3_tellSly tr pl x) = (((fX3_tellPlain ((31 * tr) + 2) pl x).1 + 100), (fX3_tellPlain ((31 * tr) + 2) pl x).2) := rfl
  rw [hQ]
  exact W.iret (v := ((fX3_tellPlain ((31 * tr) + 2) pl x).1 + 100)) hx hb hr (fun t ht hW => ⟨⟨_, (), rfl, (by show _ = _; rw [hR2]), (by show va_P D vwCl _ t.heap; rw [hR2, ht]; exact hP)⟩, hS.F ht⟩) hS.2.2 dX3_tellSly_13

def fX3_tellVain (tr : Int32) (pl : Nat → Int32) (x : Int32) : Int32 × Int32 := (((fX3_tellSly ((31 * tr) + 3) pl x).1 + (fX3_tellPlain ((fX3_tellSly ((31 * tr) + 3) pl x).2) pl x).1), (fX3_tellPlain ((fX3_tellSly ((31 * tr) + 3) pl x).2) pl x).2)
theorem q_X3_tellVain : yX3_tellVain.cls = RX3 ∧ yX3_tellVain.cls ≠ "java/lang/invoke/MethodHandle" ∧ yX3_tellVain.cls ≠ "java/lang/invoke/VarHandle" ∧ (parseMethodDescriptor yX3_tellVain.desc).map (fun d => d.parameters.length) = some 1 := by decide +kernel
set_option maxHeartbeats 4000000 in
set_option maxRecDepth 100000 in
theorem c_X3_tellVain (l : Launch) (D : va_G) (cI cS : ClassId) (h sa p0 aa ab cu sp q1 q2 q3 : Nat) (old rd tr lf an pn gr : Int32) (kd pl wt : Nat → Int32) (x : Int32)  : MMi l yX3_tellVain wsX3_tellVain { frames := 4, cells := 0, slots := 0, locals := 84 } D cI cS (wL5 cI h sa p0 aa ab cu sp q1 q2 q3 old rd tr lf an pn gr kd pl wt) [.ref h, .int x] ((fX3_tellVain tr pl x).1) (wL5 cI h sa p0 aa ab cu sp q1 q2 q3 old rd ((fX3_tellVain tr pl x).2) lf an pn gr kd pl wt) := by
  refine kEnterM (cc := cX3_tellVain) (maxL := 3) (ret := (some .int)) (by decide) rfl (Nat.le_of_ble_eq_true rfl) ?_
  intro p e s m below meth c ls Qf hQ hx hb hml hr hlocks hown hts hK hP hD hS hl
  have hown : s.vm.findClass RX3 = some m.cls := hown
  have hl : lv_has ls 3 [(0, .ref h), (1, .int x)] := hl
  generalize kA (wL5 cI h sa p0 aa ab cu sp q1 q2 q3 old rd tr lf an pn gr kd pl wt) = A at hQ hD hS
  refine lv_aload_n hx hb dX3_tellVain_0 rfl (lv_at hl 0 rfl) ?_
  refine lv_iconst (v := 3) hx hb dX3_tellVain_1 (by decide) ?_
  refine kMv (wl' := (wL5 cI h sa p0 aa ab cu sp q1 q2 q3 old rd ((31 * tr) + 3) lf an pn gr kd pl wt)) (wc := (wL1 cI h sa p0 aa ab cu sp old rd tr lf)) (w1 := (wL1 cI h sa p0 aa ab cu sp old rd ((31 * tr) + 3) lf)) hP hD hS [0] rfl rfl rfl (va_runV (As := [.int 3]) (rest := []) ⟨hx, hb, hml, hown, hts⟩ (c_X3_leave l D cI cS h sa p0 aa ab cu sp old rd tr lf 3) (cwV 1 hts gX3_tellVain_X3_leave rfl rfl rfl q_X3_leave ⟨Nat.le_of_ble_eq_true rfl, Nat.le_of_ble_eq_true rfl⟩) (kMV hK hP hD [0] rfl rfl (va_recv hK.1 hP (ci := 3) (q0 := 0) rfl rfl) [.int 3]) rfl rfl hl.1 rfl (lv_room (Nat.le_of_ble_eq_true rfl)) dX3_tellVain_2 ⟨Nat.zero_le _, Nat.zero_le _⟩) (fun H locs hP hD hS => ?_)
  obtain ⟨z1, hz1⟩ : ∃ z : Int32, z = ((31 * tr) + 3) := ⟨_, rfl⟩
  rw [← hz1] at hP hD
  refine lv_aload_n hx hb dX3_tellVain_5 rfl (lv_at hl 0 rfl) ?_
  refine lv_iload_n hx hb dX3_tellVain_6 rfl (lv_at hl 1 rfl) ?_
  refine kMi (wl' := (wL5 cI h sa p0 aa ab cu sp q1 q2 q3 old rd ((fX3_tellSly z1 pl x).2) lf an pn gr kd pl wt)) (wc := (wL5 cI h sa p0 aa ab cu sp q1 q2 q3 old rd z1 lf an pn gr kd pl wt)) (w1 := (wL5 cI h sa p0 aa ab cu sp q1 q2 q3 old rd ((fX3_tellSly z1 pl x).2) lf an pn gr kd pl wt)) hP hD hS [0, 1, 2, 3, 4] rfl rfl rfl (va_runV (As := [.int x]) (rest := []) ⟨hx, hb, hml, hown, hts⟩ (c_X3_tellSly l D cI cS h sa p0 aa ab cu sp q1 q2 q3 old rd z1 lf an pn gr kd pl wt x) (cwV 1 hts gX3_tellVain_X3_tellSly rfl rfl rfl q_X3_tellSly ⟨Nat.le_of_ble_eq_true rfl, Nat.le_of_ble_eq_true rfl⟩) (kMV hK hP hD [0, 1, 2, 3, 4] rfl rfl (va_recv hK.1 hP (ci := 3) (q0 := 0) rfl rfl) [.int x]) rfl rfl hl.1 rfl (lv_room (Nat.le_of_ble_eq_true rfl)) dX3_tellVain_7 ⟨Nat.zero_le _, Nat.zero_le _⟩) (fun H locs hP hD hS => ?_)
  refine lv_istore_n (lv' := [(2, .int ((fX3_tellSly z1 pl x).1)), (0, .ref h), (1, .int x)]) hx hb dX3_tellVain_10 rfl hl (by decide) rfl (fun ls hl => ?_)
  refine lv_iload_n hx hb dX3_tellVain_11 rfl (lv_at hl 0 rfl) ?_
  refine lv_aload_n hx hb dX3_tellVain_12 rfl (lv_at hl 1 rfl) ?_
  refine lv_iload_n hx hb dX3_tellVain_13 rfl (lv_at hl 2 rfl) ?_
  refine kMi (wl' := (wL5 cI h sa p0 aa ab cu sp q1 q2 q3 old rd ((fX3_tellPlain ((fX3_tellSly z1 pl x).2) pl x).2) lf an pn gr kd pl wt)) (wc := (wL5 cI h sa p0 aa ab cu sp q1 q2 q3 old rd ((fX3_tellSly z1 pl x).2) lf an pn gr kd pl wt)) (w1 := (wL5 cI h sa p0 aa ab cu sp q1 q2 q3 old rd ((fX3_tellPlain ((fX3_tellSly z1 pl x).2) pl x).2) lf an pn gr kd pl wt)) hP hD hS [0, 1, 2, 3, 4] rfl rfl rfl (va_runV (As := [.int x]) (rest := [.int ((fX3_tellSly z1 pl x).1)]) ⟨hx, hb, hml, hown, hts⟩ (c_X3_tellPlain l D cI cS h sa p0 aa ab cu sp q1 q2 q3 old rd ((fX3_tellSly z1 pl x).2) lf an pn gr kd pl wt x) (cwV 1 hts gX3_tellVain_X3_tellPlain rfl rfl rfl q_X3_tellPlain ⟨Nat.le_of_ble_eq_true rfl, Nat.le_of_ble_eq_true rfl⟩) (kMV hK hP hD [0, 1, 2, 3, 4] rfl rfl (va_recv hK.1 hP (ci := 3) (q0 := 0) rfl rfl) [.int x]) rfl rfl hl.1 rfl (lv_room (Nat.le_of_ble_eq_true rfl)) dX3_tellVain_14 ⟨Nat.zero_le _, Nat.zero_le _⟩) (fun H locs hP hD hS => ?_)
  refine lv_iadd hx hb dX3_tellVain_17 ?_
  subst hz1
  have hR2 : (fX3_tellVain tr pl x) = (((fX3_tellSly ((31 * tr) + 3) pl x).1 + (fX3_tellPlain ((fX3_tellSly ((31 * tr) + 3) pl x).2) pl x).1), (fX3_tellPlain ((fX3_tellSly ((31 * tr) + 3) pl x).2) pl x).2) := rfl
  rw [hQ]
  exact W.iret (v := ((fX3_tellSly ((31 * tr) + 3) pl x).1 + (fX3_tellPlain ((fX3_tellSly ((31 * tr) + 3) pl x).2) pl x).1)) hx hb hr (fun t ht hW => ⟨⟨_, (), rfl, (by show _ = _; rw [hR2]), (by show va_P D vwCl _ t.heap; rw [hR2, ht]; exact hP)⟩, hS.F ht⟩) hS.2.2 dX3_tellVain_18

def fX3_whisperLent (tr x : Int32) : Int32 × Int32 := (x, ((31 * tr) + 4))
theorem q_X3_whisperLent : yX3_whisperLent.cls = RX3 ∧ yX3_whisperLent.cls ≠ "java/lang/invoke/MethodHandle" ∧ yX3_whisperLent.cls ≠ "java/lang/invoke/VarHandle" ∧ (parseMethodDescriptor yX3_whisperLent.desc).map (fun d => d.parameters.length) = some 1 := by decide +kernel
set_option maxHeartbeats 4000000 in
set_option maxRecDepth 100000 in
theorem c_X3_whisperLent (l : Launch) (D : va_G) (cI cS : ClassId) (h sa p0 aa ab cu sp : Nat) (old rd tr lf x : Int32)  : MMi l yX3_whisperLent wsX3_whisperLent { frames := 1, cells := 0, slots := 0, locals := 21 } D cI cS (wL1 cI h sa p0 aa ab cu sp old rd tr lf) [.ref h, .int x] ((fX3_whisperLent tr x).1) (wL1 cI h sa p0 aa ab cu sp old rd ((fX3_whisperLent tr x).2) lf) := by
  refine kEnterM (cc := cX3_whisperLent) (maxL := 2) (ret := (some .int)) (by decide) rfl (Nat.le_of_ble_eq_true rfl) ?_
  intro p e s m below meth c ls Qf hQ hx hb hml hr hlocks hown hts hK hP hD hS hl
  have hown : s.vm.findClass RX3 = some m.cls := hown
  have hl : lv_has ls 2 [(0, .ref h), (1, .int x)] := hl
  generalize kA (wL1 cI h sa p0 aa ab cu sp old rd tr lf) = A at hQ hD hS
  refine lv_aload_n hx hb dX3_whisperLent_0 rfl (lv_at hl 0 rfl) ?_
  refine lv_iconst (v := 4) hx hb dX3_whisperLent_1 (by decide) ?_
  refine kMv (wl' := (wL1 cI h sa p0 aa ab cu sp old rd ((31 * tr) + 4) lf)) (wc := (wL1 cI h sa p0 aa ab cu sp old rd tr lf)) (w1 := (wL1 cI h sa p0 aa ab cu sp old rd ((31 * tr) + 4) lf)) hP hD hS [0] rfl rfl rfl (va_runV (As := [.int 4]) (rest := []) ⟨hx, hb, hml, hown, hts⟩ (c_X3_leave l D cI cS h sa p0 aa ab cu sp old rd tr lf 4) (cwV 1 hts gX3_whisperLent_X3_leave rfl rfl rfl q_X3_leave ⟨Nat.le_of_ble_eq_true rfl, Nat.le_of_ble_eq_true rfl⟩) (kMV hK hP hD [0] rfl rfl (va_recv hK.1 hP (ci := 3) (q0 := 0) rfl rfl) [.int 4]) rfl rfl hl.1 rfl (lv_room (Nat.le_of_ble_eq_true rfl)) dX3_whisperLent_2 ⟨Nat.zero_le _, Nat.zero_le _⟩) (fun H locs hP hD hS => ?_)
  obtain ⟨z1, hz1⟩ : ∃ z : Int32, z = ((31 * tr) + 4) := ⟨_, rfl⟩
  rw [← hz1] at hP hD
  refine lv_iload_n hx hb dX3_whisperLent_5 rfl (lv_at hl 1 rfl) ?_
  subst hz1
  have hR2 : (fX3_whisperLent tr x) = (x, ((31 * tr) + 4)) := rfl
  rw [hQ]
  exact W.iret (v := x) hx hb hr (fun t ht hW => ⟨⟨_, (), rfl, (by show _ = _; rw [hR2]), (by show va_P D vwCl _ t.heap; rw [hR2, ht]; exact hP)⟩, hS.F ht⟩) hS.2.2 dX3_whisperLent_6

def fX3_whisperVain (tr : Int32) : Int32 × Int32 := (40, ((31 * tr) + 5))
theorem q_X3_whisperVain : yX3_whisperVain.cls = RX3 ∧ yX3_whisperVain.cls ≠ "java/lang/invoke/MethodHandle" ∧ yX3_whisperVain.cls ≠ "java/lang/invoke/VarHandle" ∧ (parseMethodDescriptor yX3_whisperVain.desc).map (fun d => d.parameters.length) = some 0 := by decide +kernel
set_option maxHeartbeats 4000000 in
set_option maxRecDepth 100000 in
theorem c_X3_whisperVain (l : Launch) (D : va_G) (cI cS : ClassId) (h sa p0 aa ab cu sp : Nat) (old rd tr lf : Int32)  : MMi l yX3_whisperVain wsX3_whisperVain { frames := 1, cells := 0, slots := 0, locals := 21 } D cI cS (wL1 cI h sa p0 aa ab cu sp old rd tr lf) [.ref h] ((fX3_whisperVain tr).1) (wL1 cI h sa p0 aa ab cu sp old rd ((fX3_whisperVain tr).2) lf) := by
  refine kEnterM (cc := cX3_whisperVain) (maxL := 1) (ret := (some .int)) (by decide) rfl (Nat.le_of_ble_eq_true rfl) ?_
  intro p e s m below meth c ls Qf hQ hx hb hml hr hlocks hown hts hK hP hD hS hl
  have hown : s.vm.findClass RX3 = some m.cls := hown
  have hl : lv_has ls 1 [(0, .ref h)] := hl
  generalize kA (wL1 cI h sa p0 aa ab cu sp old rd tr lf) = A at hQ hD hS
  refine lv_aload_n hx hb dX3_whisperVain_0 rfl (lv_at hl 0 rfl) ?_
  refine lv_iconst (v := 5) hx hb dX3_whisperVain_1 (by decide) ?_
  refine kMv (wl' := (wL1 cI h sa p0 aa ab cu sp old rd ((31 * tr) + 5) lf)) (wc := (wL1 cI h sa p0 aa ab cu sp old rd tr lf)) (w1 := (wL1 cI h sa p0 aa ab cu sp old rd ((31 * tr) + 5) lf)) hP hD hS [0] rfl rfl rfl (va_runV (As := [.int 5]) (rest := []) ⟨hx, hb, hml, hown, hts⟩ (c_X3_leave l D cI cS h sa p0 aa ab cu sp old rd tr lf 5) (cwV 1 hts gX3_whisperVain_X3_leave rfl rfl rfl q_X3_leave ⟨Nat.le_of_ble_eq_true rfl, Nat.le_of_ble_eq_true rfl⟩) (kMV hK hP hD [0] rfl rfl (va_recv hK.1 hP (ci := 3) (q0 := 0) rfl rfl) [.int 5]) rfl rfl hl.1 rfl (lv_room (Nat.le_of_ble_eq_true rfl)) dX3_whisperVain_2 ⟨Nat.zero_le _, Nat.zero_le _⟩) (fun H locs hP hD hS => ?_)
  obtain ⟨z1, hz1⟩ : ∃ z : Int32, z = ((31 * tr) + 5) := ⟨_, rfl⟩
  rw [← hz1] at hP hD
  refine lv_bipush (v := 40) hx hb dX3_whisperVain_5 (by decide) ?_
  subst hz1
  have hR2 : (fX3_whisperVain tr) = (40, ((31 * tr) + 5)) := rfl
  rw [hQ]
  exact W.iret (v := 40) hx hb hr (fun t ht hW => ⟨⟨_, (), rfl, (by show _ = _; rw [hR2]), (by show va_P D vwCl _ t.heap; rw [hR2, ht]; exact hP)⟩, hS.F ht⟩) hS.2.2 dX3_whisperVain_7
