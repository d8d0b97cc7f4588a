theorem q_X4_fails : yX4_fails.cls = RX4 ∧ yX4_fails.cls ≠ "java/lang/invoke/MethodHandle" ∧ yX4_fails.cls ≠ "java/lang/invoke/VarHandle" ∧ (parseMethodDescriptor yX4_fails.desc).map (fun d => d.parameters.length) = some 1 := by decide +kernel
set_option maxHeartbeats 4000000 in
set_option maxRecDepth 100000 in
theorem c_X4_fails (l : Launch) (D : va_G) (cI cS : ClassId) (h m1 m2 m3 m4 m5 m6 m7 m8 m9 m10 m11 m12 m13 : Nat) (lf tr an pn gr ax ra rp rg rd : Int32) (so sl ces kd pl wt xk xp xw wo su ask shw : Nat → Int32) (ki : Int32)  : MMi l yX4_fails wsX4_fails { frames := 0, cells := 0, slots := 0, locals := 0 } D cI cS (wMo cI h m1 m2 m3 m4 m5 m6 m7 m8 m9 m10 m11 m12 m13 lf tr an pn gr ax ra rp rg rd so sl ces kd pl wt xk xp xw wo su ask shw) [.ref h, .int ki] ((-10) - ki) (wMo cI h m1 m2 m3 m4 m5 m6 m7 m8 m9 m10 m11 m12 m13 ki tr an pn gr ax ra rp rg rd so sl ces kd pl wt xk xp xw wo su ask shw) := by
  refine kEnterM (cc := cX4_fails) (maxL := 2) (ret := (some .int)) (by decide) rfl (Nat.le_of_ble_eq_true rfl) ?_
  intro p e s m below meth c ls Qf hQ hx hb hml hr hlocks hown hts hK hP hD hS hl
  have hown : s.vm.findClass RX4 = some m.cls := hown
  have hl : lv_has ls 2 [(0, .ref h), (1, .int ki)] := hl
  generalize kA (wMo cI h m1 m2 m3 m4 m5 m6 m7 m8 m9 m10 m11 m12 m13 lf tr an pn gr ax ra rp rg rd so sl ces kd pl wt xk xp xw wo su ask shw) = A at hQ hD hS
  refine lv_aload_n hx hb dX4_fails_0 rfl (lv_at hl 0 rfl) ?_
  refine lv_iload_n hx hb dX4_fails_1 rfl (lv_at hl 1 rfl) ?_
  refine va_put (D := D) (ci := 4) (v := .int ki) (ty := tyX4 0) (C := RX4) (T := TX4) (N := 23) hx hb hts (fun _ h => List.mem_cons_of_mem _ (List.mem_append_right _ h)) tyX4 tyX4_ok nmX4 hown hK.1 hP hD hS 0 rfl rfl 0 (by decide) (hts (.fieldLink RX4 49 "LieNightsModel" "fault" "I") (List.mem_of_getElem? (i := 1) rfl)) (fun _ h9 => h9) rfl (tyX4_ok 0 (by decide)) rfl rfl (Nat.le_of_ble_eq_true rfl) dX4_fails_2 (fun H locs hP hD hS => ?_)
  have hP : va_P D vwCl (wMo cI h m1 m2 m3 m4 m5 m6 m7 m8 m9 m10 m11 m12 m13 ki tr an pn gr ax ra rp rg rd so sl ces kd pl wt xk xp xw wo su ask shw) H := hP
  have hD : va_D A (wMo cI h m1 m2 m3 m4 m5 m6 m7 m8 m9 m10 m11 m12 m13 ki tr an pn gr ax ra rp rg rd so sl ces kd pl wt xk xp xw wo su ask shw) := hD
  refine lv_bipush (v := (-10)) hx hb dX4_fails_5 (by decide) ?_
  refine lv_iload_n hx hb dX4_fails_7 rfl (lv_at hl 1 rfl) ?_
  refine lv_isub hx hb dX4_fails_8 ?_
  rw [hQ]
  exact W.iret (v := ((-10) - ki)) hx hb hr (fun t ht hW => ⟨⟨_, (), rfl, rfl, (by show va_P D vwCl _ t.heap; rw [ht]; exact hP)⟩, hS.F ht⟩) hS.2.2 dX4_fails_9

theorem q_X4_lost : yX4_lost.cls = RX4 ∧ yX4_lost.cls ≠ "java/lang/invoke/MethodHandle" ∧ yX4_lost.cls ≠ "java/lang/invoke/VarHandle" ∧ (parseMethodDescriptor yX4_lost.desc).map (fun d => d.parameters.length) = some 1 := by decide +kernel
set_option maxHeartbeats 4000000 in
set_option maxRecDepth 100000 in
theorem c_X4_lost (l : Launch) (D : va_G) (cI cS : ClassId) (h m1 m2 m3 m4 m5 m6 m7 m8 m9 m10 m11 m12 m13 : Nat) (lf tr an pn gr ax ra rp rg rd : Int32) (so sl ces kd pl wt xk xp xw wo su ask shw : Nat → Int32) (ki : Int32)  : MMl l yX4_lost wsX4_lost { frames := 0, cells := 0, slots := 0, locals := 0 } D cI cS (wMo cI h m1 m2 m3 m4 m5 m6 m7 m8 m9 m10 m11 m12 m13 lf tr an pn gr ax ra rp rg rd so sl ces kd pl wt xk xp xw wo su ask shw) [.ref h, .int ki] (-9223372036854775808) (wMo cI h m1 m2 m3 m4 m5 m6 m7 m8 m9 m10 m11 m12 m13 ki tr an pn gr ax ra rp rg rd so sl ces kd pl wt xk xp xw wo su ask shw) := by
  refine kEnterM (cc := cX4_lost) (maxL := 2) (ret := (some .long)) (by decide) rfl (Nat.le_of_ble_eq_true rfl) ?_
  intro p e s m below meth c ls Qf hQ hx hb hml hr hlocks hown hts hK hP hD hS hl
  have hown : s.vm.findClass RX4 = some m.cls := hown
  have hl : lv_has ls 2 [(0, .ref h), (1, .int ki)] := hl
  generalize kA (wMo cI h m1 m2 m3 m4 m5 m6 m7 m8 m9 m10 m11 m12 m13 lf tr an pn gr ax ra rp rg rd so sl ces kd pl wt xk xp xw wo su ask shw) = A at hQ hD hS
  refine lv_aload_n hx hb dX4_lost_0 rfl (lv_at hl 0 rfl) ?_
  refine lv_iload_n hx hb dX4_lost_1 rfl (lv_at hl 1 rfl) ?_
  refine va_put (D := D) (ci := 4) (v := .int ki) (ty := tyX4 0) (C := RX4) (T := TX4) (N := 23) hx hb hts (fun _ h => List.mem_cons_of_mem _ (List.mem_append_right _ h)) tyX4 tyX4_ok nmX4 hown hK.1 hP hD hS 0 rfl rfl 0 (by decide) (hts (.fieldLink RX4 49 "LieNightsModel" "fault" "I") (List.mem_of_getElem? (i := 1) rfl)) (fun _ h9 => h9) rfl (tyX4_ok 0 (by decide)) rfl rfl (Nat.le_of_ble_eq_true rfl) dX4_lost_2 (fun H locs hP hD hS => ?_)
  have hP : va_P D vwCl (wMo cI h m1 m2 m3 m4 m5 m6 m7 m8 m9 m10 m11 m12 m13 ki tr an pn gr ax ra rp rg rd so sl ces kd pl wt xk xp xw wo su ask shw) H := hP
  have hD : va_D A (wMo cI h m1 m2 m3 m4 m5 m6 m7 m8 m9 m10 m11 m12 m13 ki tr an pn gr ax ra rp rg rd so sl ces kd pl wt xk xp xw wo su ask shw) := hD
  refine lv_ldc2 hx hb hown (hts (.constantLong RX4 53 (-9223372036854775808)) (List.mem_of_getElem? (i := 2) rfl)) dX4_lost_5 ?_
  rw [hQ]
  exact W.lret (v := (-9223372036854775808)) hx hb hr (fun t ht hW => ⟨⟨_, (), rfl, rfl, (by show va_P D vwCl _ t.heap; rw [ht]; exact hP)⟩, hS.F ht⟩) hS.2.2 dX4_lost_8

def fX4_within (v mi mo : Int32) : Int32 := (if v < mi then 0 else (if (mo : Int32) < v then 0 else 1))
theorem q_X4_within : yX4_within.cls = RX4 ∧ yX4_within.cls ≠ "java/lang/invoke/MethodHandle" ∧ yX4_within.cls ≠ "java/lang/invoke/VarHandle" ∧ (parseMethodDescriptor yX4_within.desc).map (fun d => d.parameters.length) = some 3 := by decide +kernel
set_option maxHeartbeats 4000000 in
set_option maxRecDepth 100000 in
theorem c_X4_within (l : Launch) (D : va_G) (cI cS : ClassId) (v mi mo : Int32)  : PMi l yX4_within wsX4_within { frames := 0, cells := 0, slots := 0, locals := 0 } D cI cS [] [.int v, .int mi, .int mo] (fX4_within v mi mo) := by
  refine kEnter (cc := cX4_within) (maxL := 3) (ret := (some .boolean)) (by decide) rfl (Nat.le_of_ble_eq_true rfl) ?_
  intro p e s m below meth c ls Qf hQ hx hb hml hr hlocks hown hts hK hP hl
  have hown : s.vm.findClass RX4 = some m.cls := hown
  have hl : lv_has ls 3 [(0, .int v), (1, .int mi), (2, .int mo)] := hl
  refine lv_iload_n hx hb dX4_within_0 rfl (lv_at hl 0 rfl) ?_
  refine lv_iload_n hx hb dX4_within_1 rfl (lv_at hl 1 rfl) ?_
  refine lv_icmp_lt (tgt := 14) hx hb dX4_within_2 (by decide) (fun c2 => ?_) (fun c2 => ?_)
  · skip
    refine lv_iconst (v := 0) hx hb dX4_within_14 (by decide) ?_
    have hR1 : (fX4_within v mi mo) = 0 := (by unfold fX4_within; rw [if_pos c2])
    rw [hQ]
    exact W.zret (v := 0) (ty := .boolean) hx hb hr rfl (fun t ht hW => ⟨_, rfl, hR1.symm, ht⟩) (fun q h => by cases h) dX4_within_15
  refine lv_iload_n hx hb dX4_within_5 rfl (lv_at hl 0 rfl) ?_
  refine lv_iload_n hx hb dX4_within_6 rfl (lv_at hl 2 rfl) ?_
  refine lv_icmp_gt (tgt := 14) hx hb dX4_within_7 (by decide) (fun c7 => ?_) (fun c7 => ?_)
  · skip
    refine lv_iconst (v := 0) hx hb dX4_within_14 (by decide) ?_
    have hR2 : (fX4_within v mi mo) = 0 := (by unfold fX4_within; rw [if_neg c2, if_pos c7])
    rw [hQ]
    exact W.zret (v := 0) (ty := .boolean) hx hb hr rfl (fun t ht hW => ⟨_, rfl, hR2.symm, ht⟩) (fun q h => by cases h) dX4_within_15
  refine lv_iconst (v := 1) hx hb dX4_within_10 (by decide) ?_
  refine lv_goto (tgt := 15) hx hb dX4_within_11 (by decide) ?_
  have hR3 : (fX4_within v mi mo) = 1 := (by unfold fX4_within; rw [if_neg c2, if_neg c7])
  rw [hQ]
  exact W.zret (v := 1) (ty := .boolean) hx hb hr rfl (fun t ht hW => ⟨_, rfl, hR3.symm, ht⟩) (fun q h => by cases h) dX4_within_15

theorem mNb (v mi mo : Int32) : narrow .boolean (.int (fX4_within v mi mo)) = .int (fX4_within v mi mo) := by
  unfold fX4_within
  split
  · rfl
  · split <;> rfl

def fX4_isSheet (sh : Int32) : Int32 := (fX4_within sh 0 3)
theorem q_X4_isSheet : yX4_isSheet.cls = RX4 ∧ yX4_isSheet.cls ≠ "java/lang/invoke/MethodHandle" ∧ yX4_isSheet.cls ≠ "java/lang/invoke/VarHandle" ∧ (parseMethodDescriptor yX4_isSheet.desc).map (fun d => d.parameters.length) = some 1 := by decide +kernel
set_option maxHeartbeats 4000000 in
set_option maxRecDepth 100000 in
theorem c_X4_isSheet (l : Launch) (D : va_G) (cI cS : ClassId) (sh : Int32)  : PMi l yX4_isSheet wsX4_isSheet { frames := 1, cells := 0, slots := 0, locals := 22 } D cI cS [] [.int sh] (fX4_isSheet sh) := by
  refine kEnter (cc := cX4_isSheet) (maxL := 1) (ret := (some .boolean)) (by decide) rfl (Nat.le_of_ble_eq_true rfl) ?_
  intro p e s m below meth c ls Qf hQ hx hb hml hr hlocks hown hts hK hP hl
  have hown : s.vm.findClass RX4 = some m.cls := hown
  have hl : lv_has ls 1 [(0, .int sh)] := hl
  refine lv_iload_n hx hb dX4_isSheet_0 rfl (lv_at hl 0 rfl) ?_
  refine lv_iconst (v := 0) hx hb dX4_isSheet_1 (by decide) ?_
  refine lv_iconst (v := 3) hx hb dX4_isSheet_2 (by decide) ?_
  refine kPi (va_runS (As := [.int sh, .int 0, .int 3]) (rest := []) ⟨hx, hb, hml, hown, hts⟩ (c_X4_within l D cI cS sh 0 3) (va_cwS 3 hts gX4_isSheet_X4_within rfl rfl rfl q_X4_within.2 ⟨Nat.le_of_ble_eq_true rfl, Nat.le_of_ble_eq_true rfl⟩) (kPS hK hP [] rfl [.int sh, .int 0, .int 3]) rfl rfl hl.1 rfl (lv_room (Nat.le_of_ble_eq_true rfl)) dX4_isSheet_3 ⟨Nat.zero_le _, Nat.zero_le _⟩) ?_
  have hR1 : (fX4_isSheet sh) = (fX4_within sh 0 3) := rfl
  rw [hQ]
  exact W.zret (v := (fX4_within sh 0 3)) (ty := .boolean) hx hb hr (mNb _ _ _) (fun t ht hW => ⟨_, rfl, hR1.symm, ht⟩) (fun q h => by cases h) dX4_isSheet_6

def fX4_isSort (ln : Int32) : Int32 := (fX4_within ln 0 2)
theorem q_X4_isSort : yX4_isSort.cls = RX4 ∧ yX4_isSort.cls ≠ "java/lang/invoke/MethodHandle" ∧ yX4_isSort.cls ≠ "java/lang/invoke/VarHandle" ∧ (parseMethodDescriptor yX4_isSort.desc).map (fun d => d.parameters.length) = some 1 := by decide +kernel
set_option maxHeartbeats 4000000 in
set_option maxRecDepth 100000 in
theorem c_X4_isSort (l : Launch) (D : va_G) (cI cS : ClassId) (ln : Int32)  : PMi l yX4_isSort wsX4_isSort { frames := 1, cells := 0, slots := 0, locals := 22 } D cI cS [] [.int ln] (fX4_isSort ln) := by
  refine kEnter (cc := cX4_isSort) (maxL := 1) (ret := (some .boolean)) (by decide) rfl (Nat.le_of_ble_eq_true rfl) ?_
  intro p e s m below meth c ls Qf hQ hx hb hml hr hlocks hown hts hK hP hl
  have hown : s.vm.findClass RX4 = some m.cls := hown
  have hl : lv_has ls 1 [(0, .int ln)] := hl
  refine lv_iload_n hx hb dX4_isSort_0 rfl (lv_at hl 0 rfl) ?_
  refine lv_iconst (v := 0) hx hb dX4_isSort_1 (by decide) ?_
  refine lv_iconst (v := 2) hx hb dX4_isSort_2 (by decide) ?_
  refine kPi (va_runS (As := [.int ln, .int 0, .int 2]) (rest := []) ⟨hx, hb, hml, hown, hts⟩ (c_X4_within l D cI cS ln 0 2) (va_cwS 3 hts gX4_isSort_X4_within rfl rfl rfl q_X4_within.2 ⟨Nat.le_of_ble_eq_true rfl, Nat.le_of_ble_eq_true rfl⟩) (kPS hK hP [] rfl [.int ln, .int 0, .int 2]) rfl rfl hl.1 rfl (lv_room (Nat.le_of_ble_eq_true rfl)) dX4_isSort_3 ⟨Nat.zero_le _, Nat.zero_le _⟩) ?_
  have hR1 : (fX4_isSort ln) = (fX4_within ln 0 2) := rfl
  rw [hQ]
  exact W.zret (v := (fX4_within ln 0 2)) (ty := .boolean) hx hb hr (mNb _ _ _) (fun t ht hW => ⟨_, rfl, hR1.symm, ht⟩) (fun q h => by cases h) dX4_isSort_6

def fX4_isAnswer (an x : Int32) : Int32 := (if x < 0 then 0 else (if (an : Int32) ≤ x then 0 else 1))
theorem q_X4_isAnswer : yX4_isAnswer.cls = RX4 ∧ yX4_isAnswer.cls ≠ "java/lang/invoke/MethodHandle" ∧ yX4_isAnswer.cls ≠ "java/lang/invoke/VarHandle" ∧ (parseMethodDescriptor yX4_isAnswer.desc).map (fun d => d.parameters.length) = some 1 := by decide +kernel
set_option maxHeartbeats 4000000 in
set_option maxRecDepth 100000 in
theorem c_X4_isAnswer (l : Launch) (D : va_G) (cI cS : ClassId) (h m1 m2 m3 m4 m5 m6 m7 m8 m9 m10 m11 m12 m13 : Nat) (lf tr an pn gr ax ra rp rg rd : Int32) (so sl ces kd pl wt xk xp xw wo su ask shw : Nat → Int32) (x : Int32)  : PMi l yX4_isAnswer wsX4_isAnswer { frames := 0, cells := 0, slots := 0, locals := 0 } D cI cS (wMo cI h m1 m2 m3 m4 m5 m6 m7 m8 m9 m10 m11 m12 m13 lf tr an pn gr ax ra rp rg rd so sl ces kd pl wt xk xp xw wo su ask shw) [.ref h, .int x] (fX4_isAnswer an x) := by
  refine kEnter (cc := cX4_isAnswer) (maxL := 2) (ret := (some .boolean)) (by decide) rfl (Nat.le_of_ble_eq_true rfl) ?_
  intro p e s m below meth c ls Qf hQ hx hb hml hr hlocks hown hts hK hP hl
  have hown : s.vm.findClass RX4 = some m.cls := hown
  have hl : lv_has ls 2 [(0, .ref h), (1, .int x)] := hl
  refine lv_iload_n hx hb dX4_isAnswer_0 rfl (lv_at hl 1 rfl) ?_
  refine lv_if_lt (tgt := 16) hx hb dX4_isAnswer_1 (by decide) (fun c1 => ?_) (fun c1 => ?_)
  · skip
    refine lv_iconst (v := 0) hx hb dX4_isAnswer_16 (by decide) ?_
    have hR1 : (fX4_isAnswer an x) = 0 := (by unfold fX4_isAnswer; rw [if_pos c1])
    rw [hQ]
    exact W.zret (v := 0) (ty := .boolean) hx hb hr rfl (fun t ht hW => ⟨_, rfl, hR1.symm, ht⟩) (fun q h => by cases h) dX4_isAnswer_17
  refine lv_iload_n hx hb dX4_isAnswer_4 rfl (lv_at hl 1 rfl) ?_
  refine lv_aload_n hx hb dX4_isAnswer_5 rfl (lv_at hl 0 rfl) ?_
  refine va_get (D := D) (ci := 4) (v := .int an) (C := RX4) (T := TX4) (N := 23) hx hb hts (fun _ h => List.mem_cons_of_mem _ (List.mem_append_right _ h)) hown hK.1 hP 0 rfl rfl 5 (by decide) (hts (.fieldLink RX4 59 "LieNightsModel" "answers" "I") (List.mem_of_getElem? (i := 1) rfl)) (fun _ h9 => h9) rfl dX4_isAnswer_6 ?_
  refine lv_icmp_ge (tgt := 16) hx hb dX4_isAnswer_9 (by decide) (fun c9 => ?_) (fun c9 => ?_)
  · skip
    refine lv_iconst (v := 0) hx hb dX4_isAnswer_16 (by decide) ?_
    have hR2 : (fX4_isAnswer an x) = 0 := (by unfold fX4_isAnswer; rw [if_neg c1, if_pos c9])
    rw [hQ]
    exact W.zret (v := 0) (ty := .boolean) hx hb hr rfl (fun t ht hW => ⟨_, rfl, hR2.symm, ht⟩) (fun q h => by cases h) dX4_isAnswer_17
  refine lv_iconst (v := 1) hx hb dX4_isAnswer_12 (by decide) ?_
  refine lv_goto (tgt := 17) hx hb dX4_isAnswer_13 (by decide) ?_
  have hR3 : (fX4_isAnswer an x) = 1 := (by unfold fX4_isAnswer; rw [if_neg c1, if_neg c9])
  rw [hQ]
  exact W.zret (v := 1) (ty := .boolean) hx hb hr rfl (fun t ht hW => ⟨_, rfl, hR3.symm, ht⟩) (fun q h => by cases h) dX4_isAnswer_17

def fX4_isSet (an se : Int32) : Int32 := (if se < 0 then 0 else (if ((1 <<< (an &&& 31)) : Int32) ≤ se then 0 else 1))
theorem q_X4_isSet : yX4_isSet.cls = RX4 ∧ yX4_isSet.cls ≠ "java/lang/invoke/MethodHandle" ∧ yX4_isSet.cls ≠ "java/lang/invoke/VarHandle" ∧ (parseMethodDescriptor yX4_isSet.desc).map (fun d => d.parameters.length) = some 1 := by decide +kernel
set_option maxHeartbeats 4000000 in
set_option maxRecDepth 100000 in
theorem c_X4_isSet (l : Launch) (D : va_G) (cI cS : ClassId) (h m1 m2 m3 m4 m5 m6 m7 m8 m9 m10 m11 m12 m13 : Nat) (lf tr an pn gr ax ra rp rg rd : Int32) (so sl ces kd pl wt xk xp xw wo su ask shw : Nat → Int32) (se : Int32)  : PMi l yX4_isSet wsX4_isSet { frames := 0, cells := 0, slots := 0, locals := 0 } D cI cS (wMo cI h m1 m2 m3 m4 m5 m6 m7 m8 m9 m10 m11 m12 m13 lf tr an pn gr ax ra rp rg rd so sl ces kd pl wt xk xp xw wo su ask shw) [.ref h, .int se] (fX4_isSet an se) := by
  refine kEnter (cc := cX4_isSet) (maxL := 2) (ret := (some .boolean)) (by decide) rfl (Nat.le_of_ble_eq_true rfl) ?_
  intro p e s m below meth c ls Qf hQ hx hb hml hr hlocks hown hts hK hP hl
  have hown : s.vm.findClass RX4 = some m.cls := hown
  have hl : lv_has ls 2 [(0, .ref h), (1, .int se)] := hl
  refine lv_iload_n hx hb dX4_isSet_0 rfl (lv_at hl 1 rfl) ?_
  refine lv_if_lt (tgt := 18) hx hb dX4_isSet_1 (by decide) (fun c1 => ?_) (fun c1 => ?_)
  · skip
    refine lv_iconst (v := 0) hx hb dX4_isSet_18 (by decide) ?_
    have hR1 : (fX4_isSet an se) = 0 := (by unfold fX4_isSet; rw [if_pos c1])
    rw [hQ]
    exact W.zret (v := 0) (ty := .boolean) hx hb hr rfl (fun t ht hW => ⟨_, rfl, hR1.symm, ht⟩) (fun q h => by cases h) dX4_isSet_19
  refine lv_iload_n hx hb dX4_isSet_4 rfl (lv_at hl 1 rfl) ?_
  refine lv_iconst (v := 1) hx hb dX4_isSet_5 (by decide) ?_
  refine lv_aload_n hx hb dX4_isSet_6 rfl (lv_at hl 0 rfl) ?_
  refine va_get (D := D) (ci := 4) (v := .int an) (C := RX4) (T := TX4) (N := 23) hx hb hts (fun _ h => List.mem_cons_of_mem _ (List.mem_append_right _ h)) hown hK.1 hP 0 rfl rfl 5 (by decide) (hts (.fieldLink RX4 59 "LieNightsModel" "answers" "I") (List.mem_of_getElem? (i := 1) rfl)) (fun _ h9 => h9) rfl dX4_isSet_7 ?_
  refine lv_ishl hx hb dX4_isSet_10 ?_
  refine lv_icmp_ge (tgt := 18) hx hb dX4_isSet_11 (by decide) (fun c11 => ?_) (fun c11 => ?_)
  · skip
    refine lv_iconst (v := 0) hx hb dX4_isSet_18 (by decide) ?_
    have hR2 : (fX4_isSet an se) = 0 := (by unfold fX4_isSet; rw [if_neg c1, if_pos c11])
    rw [hQ]
    exact W.zret (v := 0) (ty := .boolean) hx hb hr rfl (fun t ht hW => ⟨_, rfl, hR2.symm, ht⟩) (fun q h => by cases h) dX4_isSet_19
  refine lv_iconst (v := 1) hx hb dX4_isSet_14 (by decide) ?_
  refine lv_goto (tgt := 19) hx hb dX4_isSet_15 (by decide) ?_
  have hR3 : (fX4_isSet an se) = 1 := (by unfold fX4_isSet; rw [if_neg c1, if_neg c11])
  rw [hQ]
  exact W.zret (v := 1) (ty := .boolean) hx hb hr rfl (fun t ht hW => ⟨_, rfl, hR3.symm, ht⟩) (fun q h => by cases h) dX4_isSet_19

def fX4_against (so sl : Nat → Int32) (sh ln i nn : Int32) : Int32 := (if (so sh.toNatClampNeg) = (-9) then 1 else (if (so sh.toNatClampNeg) = ln then (if (0 : Int32) ≤ nn then (if i < 0 then 3 else (if ((sl sh.toNatClampNeg) : Int32) < i then 3 else (if nn ≤ ((sl sh.toNatClampNeg) - i) then 0 else 3))) else 4) else 2))
theorem q_X4_against : yX4_against.cls = RX4 ∧ yX4_against.cls ≠ "java/lang/invoke/MethodHandle" ∧ yX4_against.cls ≠ "java/lang/invoke/VarHandle" ∧ (parseMethodDescriptor yX4_against.desc).map (fun d => d.parameters.length) = some 4 := by decide +kernel
set_option maxHeartbeats 4000000 in
set_option maxRecDepth 100000 in
theorem c_X4_against (l : Launch) (D : va_G) (cI cS : ClassId) (h m1 m2 m3 m4 m5 m6 m7 m8 m9 m10 m11 m12 m13 : Nat) (lf tr an pn gr ax ra rp rg rd : Int32) (so sl ces kd pl wt xk xp xw wo su ask shw : Nat → Int32) (sh ln i nn : Int32) (hsh : vp_in sh 4) : PMi l yX4_against wsX4_against { frames := 0, cells := 0, slots := 0, locals := 0 } D cI cS (wMo cI h m1 m2 m3 m4 m5 m6 m7 m8 m9 m10 m11 m12 m13 lf tr an pn gr ax ra rp rg rd so sl ces kd pl wt xk xp xw wo su ask shw) [.ref h, .int sh, .int ln, .int i, .int nn] (fX4_against so sl sh ln i nn) := by
  refine kEnter (cc := cX4_against) (maxL := 5) (ret := (some .int)) (by decide) rfl (Nat.le_of_ble_eq_true rfl) ?_
  intro p e s m below meth c ls Qf hQ hx hb hml hr hlocks hown hts hK hP hl
  have hown : s.vm.findClass RX4 = some m.cls := hown
  have hl : lv_has ls 5 [(0, .ref h), (1, .int sh), (2, .int ln), (3, .int i), (4, .int nn)] := hl
  refine lv_aload_n hx hb dX4_against_0 rfl (lv_at hl 0 rfl) ?_
  refine va_get (D := D) (ci := 4) (v := .ref m1) (C := RX4) (T := TX4) (N := 23) hx hb hts (fun _ h => List.mem_cons_of_mem _ (List.mem_append_right _ h)) hown hK.1 hP 0 rfl rfl 2 (by decide) (hts (.fieldLink RX4 9 "LieNightsModel" "sorts" "[I") (List.mem_of_getElem? (i := 1) rfl)) (fun _ h9 => h9) rfl dX4_against_1 ?_
  refine lv_iload_n hx hb dX4_against_4 rfl (lv_at hl 1 rfl) ?_
  refine va_iald hx hb hK.1 hP 1 0 rfl rfl hsh dX4_against_5 ?_
  refine lv_bipush (v := (-9)) hx hb dX4_against_6 (by decide) ?_
  refine lv_icmp_eq (tgt := 23) hx hb dX4_against_8 (by decide) (fun c8 => ?_) (fun c8 => ?_)
  · skip
    refine lv_aload_n hx hb dX4_against_23 rfl (lv_at hl 0 rfl) ?_
    refine va_get (D := D) (ci := 4) (v := .ref m1) (C := RX4) (T := TX4) (N := 23) hx hb hts (fun _ h => List.mem_cons_of_mem _ (List.mem_append_right _ h)) hown hK.1 hP 0 rfl rfl 2 (by decide) (hts (.fieldLink RX4 9 "LieNightsModel" "sorts" "[I") (List.mem_of_getElem? (i := 1) rfl)) (fun _ h9 => h9) rfl dX4_against_24 ?_
    refine lv_iload_n hx hb dX4_against_27 rfl (lv_at hl 1 rfl) ?_
    refine va_iald hx hb hK.1 hP 1 0 rfl rfl hsh dX4_against_28 ?_
    refine lv_bipush (v := (-9)) hx hb dX4_against_29 (by decide) ?_
    refine lv_icmp_ne (tgt := 36) hx hb dX4_against_31 (by decide) (fun c31 => ?_) (fun c31 => ?_)
    · exact absurd c8 c31
    refine lv_iconst (v := 1) hx hb dX4_against_34 (by decide) ?_
    have hR1 : (fX4_against so sl sh ln i nn) = 1 := (by unfold fX4_against; rw [if_pos c8])
    rw [hQ]
    exact W.iret (v := 1) hx hb hr (fun t ht hW => ⟨_, rfl, hR1.symm, ht⟩) (fun q h => by cases h) dX4_against_35
  refine lv_aload_n hx hb dX4_against_11 rfl (lv_at hl 0 rfl) ?_
  refine va_get (D := D) (ci := 4) (v := .ref m1) (C := RX4) (T := TX4) (N := 23) hx hb hts (fun _ h => List.mem_cons_of_mem _ (List.mem_append_right _ h)) hown hK.1 hP 0 rfl rfl 2 (by decide) (hts (.fieldLink RX4 9 "LieNightsModel" "sorts" "[I") (List.mem_of_getElem? (i := 1) rfl)) (fun _ h9 => h9) rfl dX4_against_12 ?_
  refine lv_iload_n hx hb dX4_against_15 rfl (lv_at hl 1 rfl) ?_
  refine va_iald hx hb hK.1 hP 1 0 rfl rfl hsh dX4_against_16 ?_
  refine lv_iload_n hx hb dX4_against_17 rfl (lv_at hl 2 rfl) ?_
  refine lv_icmp_eq (tgt := 23) hx hb dX4_against_18 (by decide) (fun c18 => ?_) (fun c18 => ?_)
  · skip
    refine lv_aload_n hx hb dX4_against_23 rfl (lv_at hl 0 rfl) ?_
    refine va_get (D := D) (ci := 4) (v := .ref m1) (C := RX4) (T := TX4) (N := 23) hx hb hts (fun _ h => List.mem_cons_of_mem _ (List.mem_append_right _ h)) hown hK.1 hP 0 rfl rfl 2 (by decide) (hts (.fieldLink RX4 9 "LieNightsModel" "sorts" "[I") (List.mem_of_getElem? (i := 1) rfl)) (fun _ h9 => h9) rfl dX4_against_24 ?_
    refine lv_iload_n hx hb dX4_against_27 rfl (lv_at hl 1 rfl) ?_
    refine va_iald hx hb hK.1 hP 1 0 rfl rfl hsh dX4_against_28 ?_
    refine lv_bipush (v := (-9)) hx hb dX4_against_29 (by decide) ?_
    refine lv_icmp_ne (tgt := 36) hx hb dX4_against_31 (by decide) (fun c31 => ?_) (fun c31 => ?_)
    · skip
      refine lv_iload hx hb dX4_against_36 (lv_at hl 4 rfl) ?_
      refine lv_if_ge (tgt := 43) hx hb dX4_against_38 (by decide) (fun c38 => ?_) (fun c38 => ?_)
      · skip
        refine lv_iload_n hx hb dX4_against_43 rfl (lv_at hl 3 rfl) ?_
        refine lv_if_lt (tgt := 70) hx hb dX4_against_44 (by decide) (fun c44 => ?_) (fun c44 => ?_)
        · skip
          refine lv_iconst (v := 3) hx hb dX4_against_70 (by decide) ?_
          refine lv_goto (tgt := 75) hx hb dX4_against_71 (by decide) ?_
          have hR2 : (fX4_against so sl sh ln i nn) = 3 := (by unfold fX4_against; rw [if_neg c8, if_pos c18, if_pos c38, if_pos c44])
          rw [hQ]
          exact W.iret (v := 3) hx hb hr (fun t ht hW => ⟨_, rfl, hR2.symm, ht⟩) (fun q h => by cases h) dX4_against_75
        refine lv_iload_n hx hb dX4_against_47 rfl (lv_at hl 3 rfl) ?_
        refine lv_aload_n hx hb dX4_against_48 rfl (lv_at hl 0 rfl) ?_
        refine va_get (D := D) (ci := 4) (v := .ref m2) (C := RX4) (T := TX4) (N := 23) hx hb hts (fun _ h => List.mem_cons_of_mem _ (List.mem_append_right _ h)) hown hK.1 hP 0 rfl rfl 3 (by decide) (hts (.fieldLink RX4 13 "LieNightsModel" "sheetLong" "[I") (List.mem_of_getElem? (i := 2) rfl)) (fun _ h9 => h9) rfl dX4_against_49 ?_
        refine lv_iload_n hx hb dX4_against_52 rfl (lv_at hl 1 rfl) ?_
        refine va_iald hx hb hK.1 hP 2 0 rfl rfl hsh dX4_against_53 ?_
        refine lv_icmp_gt (tgt := 70) hx hb dX4_against_54 (by decide) (fun c54 => ?_) (fun c54 => ?_)
        · skip
          refine lv_iconst (v := 3) hx hb dX4_against_70 (by decide) ?_
          refine lv_goto (tgt := 75) hx hb dX4_against_71 (by decide) ?_
          have hR3 : (fX4_against so sl sh ln i nn) = 3 := (by unfold fX4_against; rw [if_neg c8, if_pos c18, if_pos c38, if_neg c44, if_pos c54])
          rw [hQ]
          exact W.iret (v := 3) hx hb hr (fun t ht hW => ⟨_, rfl, hR3.symm, ht⟩) (fun q h => by cases h) dX4_against_75
        refine lv_iload hx hb dX4_against_57 (lv_at hl 4 rfl) ?_
        refine lv_aload_n hx hb dX4_against_59 rfl (lv_at hl 0 rfl) ?_
        refine va_get (D := D) (ci := 4) (v := .ref m2) (C := RX4) (T := TX4) (N := 23) hx hb hts (fun _ h => List.mem_cons_of_mem _ (List.mem_append_right _ h)) hown hK.1 hP 0 rfl rfl 3 (by decide) (hts (.fieldLink RX4 13 "LieNightsModel" "sheetLong" "[I") (List.mem_of_getElem? (i := 2) rfl)) (fun _ h9 => h9) rfl dX4_against_60 ?_
        refine lv_iload_n hx hb dX4_against_63 rfl (lv_at hl 1 rfl) ?_
        refine va_iald hx hb hK.1 hP 2 0 rfl rfl hsh dX4_against_64 ?_
        refine lv_iload_n hx hb dX4_against_65 rfl (lv_at hl 3 rfl) ?_
        refine lv_isub hx hb dX4_against_66 ?_
        refine lv_icmp_le (tgt := 74) hx hb dX4_against_67 (by decide) (fun c67 => ?_) (fun c67 => ?_)
        · skip
          refine lv_iconst (v := 0) hx hb dX4_against_74 (by decide) ?_
          have hR4 : (fX4_against so sl sh ln i nn) = 0 := (by unfold fX4_against; rw [if_neg c8, if_pos c18, if_pos c38, if_neg c44, if_neg c54, if_pos c67])
          rw [hQ]
          exact W.iret (v := 0) hx hb hr (fun t ht hW => ⟨_, rfl, hR4.symm, ht⟩) (fun q h => by cases h) dX4_against_75
        refine lv_iconst (v := 3) hx hb dX4_against_70 (by decide) ?_
        refine lv_goto (tgt := 75) hx hb dX4_against_71 (by decide) ?_
        have hR5 : (fX4_against so sl sh ln i nn) = 3 := (by unfold fX4_against; rw [if_neg c8, if_pos c18, if_pos c38, if_neg c44, if_neg c54, if_neg c67])
        rw [hQ]
        exact W.iret (v := 3) hx hb hr (fun t ht hW => ⟨_, rfl, hR5.symm, ht⟩) (fun q h => by cases h) dX4_against_75
      refine lv_iconst (v := 4) hx hb dX4_against_41 (by decide) ?_
      have hR6 : (fX4_against so sl sh ln i nn) = 4 := (by unfold fX4_against; rw [if_neg c8, if_pos c18, if_neg c38])
      rw [hQ]
      exact W.iret (v := 4) hx hb hr (fun t ht hW => ⟨_, rfl, hR6.symm, ht⟩) (fun q h => by cases h) dX4_against_42
    exact absurd c31 c8
  refine lv_iconst (v := 2) hx hb dX4_against_21 (by decide) ?_
  have hR7 : (fX4_against so sl sh ln i nn) = 2 := (by unfold fX4_against; rw [if_neg c8, if_neg c18])
  rw [hQ]
  exact W.iret (v := 2) hx hb hr (fun t ht hW => ⟨_, rfl, hR7.symm, ht⟩) (fun q h => by cases h) dX4_against_22

def fX4_shownBy (kd pl : Nat → Int32) (x t : Int32) : Int32 := (if x = t then (-9) else (if ((pl t.toNatClampNeg) : Int32) ≤ (pl x.toNatClampNeg) then (if (kd x.toNatClampNeg) = 0 then ((pl x.toNatClampNeg) - (pl t.toNatClampNeg)) else (if (kd x.toNatClampNeg) = 1 then (((pl x.toNatClampNeg) - (pl t.toNatClampNeg)) + 1) else (((pl x.toNatClampNeg) - (pl t.toNatClampNeg)) / 2))) else (if (kd x.toNatClampNeg) = 0 then ((pl t.toNatClampNeg) - (pl x.toNatClampNeg)) else (if (kd x.toNatClampNeg) = 1 then (((pl t.toNatClampNeg) - (pl x.toNatClampNeg)) + 1) else (((pl t.toNatClampNeg) - (pl x.toNatClampNeg)) / 2)))))
theorem q_X4_shownBy : yX4_shownBy.cls = RX4 ∧ yX4_shownBy.cls ≠ "java/lang/invoke/MethodHandle" ∧ yX4_shownBy.cls ≠ "java/lang/invoke/VarHandle" ∧ (parseMethodDescriptor yX4_shownBy.desc).map (fun d => d.parameters.length) = some 2 := by decide +kernel
set_option maxHeartbeats 4000000 in
set_option maxRecDepth 100000 in
theorem c_X4_shownBy (l : Launch) (D : va_G) (cI cS : ClassId) (h m1 m2 m3 m4 m5 m6 m7 m8 m9 m10 m11 m12 m13 : Nat) (lf tr an pn gr ax ra rp rg rd : Int32) (so sl ces kd pl wt xk xp xw wo su ask shw : Nat → Int32) (x t : Int32) (hix : vp_in x 6) (hit : vp_in t 6) : PMi l yX4_shownBy wsX4_shownBy { frames := 0, cells := 0, slots := 0, locals := 0 } D cI cS (wMo cI h m1 m2 m3 m4 m5 m6 m7 m8 m9 m10 m11 m12 m13 lf tr an pn gr ax ra rp rg rd so sl ces kd pl wt xk xp xw wo su ask shw) [.ref h, .int x, .int t] (fX4_shownBy kd pl x t) := by
  refine kEnter (cc := cX4_shownBy) (maxL := 4) (ret := (some .int)) (by decide) rfl (Nat.le_of_ble_eq_true rfl) ?_
  intro p e s m below meth c ls Qf hQ hx hb hml hr hlocks hown hts hK hP hl
  have hown : s.vm.findClass RX4 = some m.cls := hown
  have hl : lv_has ls 4 [(0, .ref h), (1, .int x), (2, .int t)] := hl
  refine lv_iload_n hx hb dX4_shownBy_0 rfl (lv_at hl 1 rfl) ?_
  refine lv_iload_n hx hb dX4_shownBy_1 rfl (lv_at hl 2 rfl) ?_
  refine lv_icmp_ne (tgt := 8) hx hb dX4_shownBy_2 (by decide) (fun c2 => ?_) (fun c2 => ?_)
  · skip
    refine lv_aload_n hx hb dX4_shownBy_8 rfl (lv_at hl 0 rfl) ?_
    refine va_get (D := D) (ci := 4) (v := .ref m5) (C := RX4) (T := TX4) (N := 23) hx hb hts (fun _ h => List.mem_cons_of_mem _ (List.mem_append_right _ h)) hown hK.1 hP 0 rfl rfl 9 (by decide) (hts (.fieldLink RX4 22 "LieNightsModel" "place" "[I") (List.mem_of_getElem? (i := 1) rfl)) (fun _ h9 => h9) rfl dX4_shownBy_9 ?_
    refine lv_iload_n hx hb dX4_shownBy_12 rfl (lv_at hl 1 rfl) ?_
    refine va_iald hx hb hK.1 hP 5 0 rfl rfl hix dX4_shownBy_13 ?_
    refine lv_aload_n hx hb dX4_shownBy_14 rfl (lv_at hl 0 rfl) ?_
    refine va_get (D := D) (ci := 4) (v := .ref m5) (C := RX4) (T := TX4) (N := 23) hx hb hts (fun _ h => List.mem_cons_of_mem _ (List.mem_append_right _ h)) hown hK.1 hP 0 rfl rfl 9 (by decide) (hts (.fieldLink RX4 22 "LieNightsModel" "place" "[I") (List.mem_of_getElem? (i := 1) rfl)) (fun _ h9 => h9) rfl dX4_shownBy_15 ?_
    refine lv_iload_n hx hb dX4_shownBy_18 rfl (lv_at hl 2 rfl) ?_
    refine va_iald hx hb hK.1 hP 5 0 rfl rfl hit dX4_shownBy_19 ?_
    refine lv_icmp_ge (tgt := 39) hx hb dX4_shownBy_20 (by decide) (fun c20 => ?_) (fun c20 => ?_)
    · skip
      refine lv_aload_n hx hb dX4_shownBy_39 rfl (lv_at hl 0 rfl) ?_
      refine va_get (D := D) (ci := 4) (v := .ref m5) (C := RX4) (T := TX4) (N := 23) hx hb hts (fun _ h => List.mem_cons_of_mem _ (List.mem_append_right _ h)) hown hK.1 hP 0 rfl rfl 9 (by decide) (hts (.fieldLink RX4 22 "LieNightsModel" "place" "[I") (List.mem_of_getElem? (i := 1) rfl)) (fun _ h9 => h9) rfl dX4_shownBy_40 ?_
      refine lv_iload_n hx hb dX4_shownBy_43 rfl (lv_at hl 1 rfl) ?_
      refine va_iald hx hb hK.1 hP 5 0 rfl rfl hix dX4_shownBy_44 ?_
      refine lv_aload_n hx hb dX4_shownBy_45 rfl (lv_at hl 0 rfl) ?_
      refine va_get (D := D) (ci := 4) (v := .ref m5) (C := RX4) (T := TX4) (N := 23) hx hb hts (fun _ h => List.mem_cons_of_mem _ (List.mem_append_right _ h)) hown hK.1 hP 0 rfl rfl 9 (by decide) (hts (.fieldLink RX4 22 "LieNightsModel" "place" "[I") (List.mem_of_getElem? (i := 1) rfl)) (fun _ h9 => h9) rfl dX4_shownBy_46 ?_
      refine lv_iload_n hx hb dX4_shownBy_49 rfl (lv_at hl 2 rfl) ?_
      refine va_iald hx hb hK.1 hP 5 0 rfl rfl hit dX4_shownBy_50 ?_
      refine lv_isub hx hb dX4_shownBy_51 ?_
      refine lv_istore_n (lv' := [(3, .int ((pl x.toNatClampNeg) - (pl t.toNatClampNeg))), (0, .ref h), (1, .int x), (2, .int t)]) hx hb dX4_shownBy_52 rfl hl (by decide) rfl (fun ls hl => ?_)
      refine lv_aload_n hx hb dX4_shownBy_53 rfl (lv_at hl 1 rfl) ?_
      refine va_get (D := D) (ci := 4) (v := .ref m4) (C := RX4) (T := TX4) (N := 23) hx hb hts (fun _ h => List.mem_cons_of_mem _ (List.mem_append_right _ h)) hown hK.1 hP 0 rfl rfl 8 (by decide) (hts (.fieldLink RX4 19 "LieNightsModel" "kind" "[I") (List.mem_of_getElem? (i := 2) rfl)) (fun _ h9 => h9) rfl dX4_shownBy_54 ?_
      refine lv_iload_n hx hb dX4_shownBy_57 rfl (lv_at hl 2 rfl) ?_
      refine va_iald hx hb hK.1 hP 4 0 rfl rfl hix dX4_shownBy_58 ?_
      refine lv_if_ne (tgt := 66) hx hb dX4_shownBy_59 (by decide) (fun c59 => ?_) (fun c59 => ?_)
      · skip
        refine lv_aload_n hx hb dX4_shownBy_66 rfl (lv_at hl 1 rfl) ?_
        refine va_get (D := D) (ci := 4) (v := .ref m4) (C := RX4) (T := TX4) (N := 23) hx hb hts (fun _ h => List.mem_cons_of_mem _ (List.mem_append_right _ h)) hown hK.1 hP 0 rfl rfl 8 (by decide) (hts (.fieldLink RX4 19 "LieNightsModel" "kind" "[I") (List.mem_of_getElem? (i := 2) rfl)) (fun _ h9 => h9) rfl dX4_shownBy_67 ?_
        refine lv_iload_n hx hb dX4_shownBy_70 rfl (lv_at hl 2 rfl) ?_
        refine va_iald hx hb hK.1 hP 4 0 rfl rfl hix dX4_shownBy_71 ?_
        refine lv_iconst (v := 1) hx hb dX4_shownBy_72 (by decide) ?_
        refine lv_icmp_ne (tgt := 82) hx hb dX4_shownBy_73 (by decide) (fun c73 => ?_) (fun c73 => ?_)
        · skip
          refine lv_iload_n hx hb dX4_shownBy_82 rfl (lv_at hl 0 rfl) ?_
          refine lv_iconst (v := 2) hx hb dX4_shownBy_83 (by decide) ?_
          refine lv_idiv hx hb dX4_shownBy_84 (by decide) ?_
          have hR1 : (fX4_shownBy kd pl x t) = (((pl x.toNatClampNeg) - (pl t.toNatClampNeg)) / 2) := (by unfold fX4_shownBy; rw [if_neg c2, if_pos c20, if_neg c59, if_neg c73])
          rw [hQ]
          exact W.iret (v := (((pl x.toNatClampNeg) - (pl t.toNatClampNeg)) / 2)) hx hb hr (fun t ht hW => ⟨_, rfl, hR1.symm, ht⟩) (fun q h => by cases h) dX4_shownBy_85
        refine lv_iload_n hx hb dX4_shownBy_76 rfl (lv_at hl 0 rfl) ?_
        refine lv_iconst (v := 1) hx hb dX4_shownBy_77 (by decide) ?_
        refine lv_iadd hx hb dX4_shownBy_78 ?_
        refine lv_goto (tgt := 85) hx hb dX4_shownBy_79 (by decide) ?_
        have hR2 : (fX4_shownBy kd pl x t) = (((pl x.toNatClampNeg) - (pl t.toNatClampNeg)) + 1) := (by unfold fX4_shownBy; rw [if_neg c2, if_pos c20, if_neg c59, if_pos c73])
        rw [hQ]
        exact W.iret (v := (((pl x.toNatClampNeg) - (pl t.toNatClampNeg)) + 1)) hx hb hr (fun t ht hW => ⟨_, rfl, hR2.symm, ht⟩) (fun q h => by cases h) dX4_shownBy_85
      refine lv_iload_n hx hb dX4_shownBy_62 rfl (lv_at hl 0 rfl) ?_
      refine lv_goto (tgt := 85) hx hb dX4_shownBy_63 (by decide) ?_
      have hR3 : (fX4_shownBy kd pl x t) = ((pl x.toNatClampNeg) - (pl t.toNatClampNeg)) := (by unfold fX4_shownBy; rw [if_neg c2, if_pos c20, if_pos c59])
      rw [hQ]
      exact W.iret (v := ((pl x.toNatClampNeg) - (pl t.toNatClampNeg))) hx hb hr (fun t ht hW => ⟨_, rfl, hR3.symm, ht⟩) (fun q h => by cases h) dX4_shownBy_85
    refine lv_aload_n hx hb dX4_shownBy_23 rfl (lv_at hl 0 rfl) ?_
    refine va_get (D := D) (ci := 4) (v := .ref m5) (C := RX4) (T := TX4) (N := 23) hx hb hts (fun _ h => List.mem_cons_of_mem _ (List.mem_append_right _ h)) hown hK.1 hP 0 rfl rfl 9 (by decide) (hts (.fieldLink RX4 22 "LieNightsModel" "place" "[I") (List.mem_of_getElem? (i := 1) rfl)) (fun _ h9 => h9) rfl dX4_shownBy_24 ?_
    refine lv_iload_n hx hb dX4_shownBy_27 rfl (lv_at hl 2 rfl) ?_
    refine va_iald hx hb hK.1 hP 5 0 rfl rfl hit dX4_shownBy_28 ?_
    refine lv_aload_n hx hb dX4_shownBy_29 rfl (lv_at hl 0 rfl) ?_
    refine va_get (D := D) (ci := 4) (v := .ref m5) (C := RX4) (T := TX4) (N := 23) hx hb hts (fun _ h => List.mem_cons_of_mem _ (List.mem_append_right _ h)) hown hK.1 hP 0 rfl rfl 9 (by decide) (hts (.fieldLink RX4 22 "LieNightsModel" "place" "[I") (List.mem_of_getElem? (i := 1) rfl)) (fun _ h9 => h9) rfl dX4_shownBy_30 ?_
    refine lv_iload_n hx hb dX4_shownBy_33 rfl (lv_at hl 1 rfl) ?_
    refine va_iald hx hb hK.1 hP 5 0 rfl rfl hix dX4_shownBy_34 ?_
    refine lv_isub hx hb dX4_shownBy_35 ?_
    refine lv_goto (tgt := 52) hx hb dX4_shownBy_36 (by decide) ?_
    refine lv_istore_n (lv' := [(3, .int ((pl t.toNatClampNeg) - (pl x.toNatClampNeg))), (0, .ref h), (1, .int x), (2, .int t)]) hx hb dX4_shownBy_52 rfl hl (by decide) rfl (fun ls hl => ?_)
    refine lv_aload_n hx hb dX4_shownBy_53 rfl (lv_at hl 1 rfl) ?_
    refine va_get (D := D) (ci := 4) (v := .ref m4) (C := RX4) (T := TX4) (N := 23) hx hb hts (fun _ h => List.mem_cons_of_mem _ (List.mem_append_right _ h)) hown hK.1 hP 0 rfl rfl 8 (by decide) (hts (.fieldLink RX4 19 "LieNightsModel" "kind" "[I") (List.mem_of_getElem? (i := 2) rfl)) (fun _ h9 => h9) rfl dX4_shownBy_54 ?_
    refine lv_iload_n hx hb dX4_shownBy_57 rfl (lv_at hl 2 rfl) ?_
    refine va_iald hx hb hK.1 hP 4 0 rfl rfl hix dX4_shownBy_58 ?_
    refine lv_if_ne (tgt := 66) hx hb dX4_shownBy_59 (by decide) (fun c59 => ?_) (fun c59 => ?_)
    · skip
      refine lv_aload_n hx hb dX4_shownBy_66 rfl (lv_at hl 1 rfl) ?_
      refine va_get (D := D) (ci := 4) (v := .ref m4) (C := RX4) (T := TX4) (N := 23) hx hb hts (fun _ h => List.mem_cons_of_mem _ (List.mem_append_right _ h)) hown hK.1 hP 0 rfl rfl 8 (by decide) (hts (.fieldLink RX4 19 "LieNightsModel" "kind" "[I") (List.mem_of_getElem? (i := 2) rfl)) (fun _ h9 => h9) rfl dX4_shownBy_67 ?_
      refine lv_iload_n hx hb dX4_shownBy_70 rfl (lv_at hl 2 rfl) ?_
      refine va_iald hx hb hK.1 hP 4 0 rfl rfl hix dX4_shownBy_71 ?_
      refine lv_iconst (v := 1) hx hb dX4_shownBy_72 (by decide) ?_
      refine lv_icmp_ne (tgt := 82) hx hb dX4_shownBy_73 (by decide) (fun c73 => ?_) (fun c73 => ?_)
      · skip
        refine lv_iload_n hx hb dX4_shownBy_82 rfl (lv_at hl 0 rfl) ?_
        refine lv_iconst (v := 2) hx hb dX4_shownBy_83 (by decide) ?_
        refine lv_idiv hx hb dX4_shownBy_84 (by decide) ?_
        have hR4 : (fX4_shownBy kd pl x t) = (((pl t.toNatClampNeg) - (pl x.toNatClampNeg)) / 2) := (by unfold fX4_shownBy; rw [if_neg c2, if_neg c20, if_neg c59, if_neg c73])
        rw [hQ]
        exact W.iret (v := (((pl t.toNatClampNeg) - (pl x.toNatClampNeg)) / 2)) hx hb hr (fun t ht hW => ⟨_, rfl, hR4.symm, ht⟩) (fun q h => by cases h) dX4_shownBy_85
      refine lv_iload_n hx hb dX4_shownBy_76 rfl (lv_at hl 0 rfl) ?_
      refine lv_iconst (v := 1) hx hb dX4_shownBy_77 (by decide) ?_
      refine lv_iadd hx hb dX4_shownBy_78 ?_
      refine lv_goto (tgt := 85) hx hb dX4_shownBy_79 (by decide) ?_
      have hR5 : (fX4_shownBy kd pl x t) = (((pl t.toNatClampNeg) - (pl x.toNatClampNeg)) + 1) := (by unfold fX4_shownBy; rw [if_neg c2, if_neg c20, if_neg c59, if_pos c73])
      rw [hQ]
      exact W.iret (v := (((pl t.toNatClampNeg) - (pl x.toNatClampNeg)) + 1)) hx hb hr (fun t ht hW => ⟨_, rfl, hR5.symm, ht⟩) (fun q h => by cases h) dX4_shownBy_85
    refine lv_iload_n hx hb dX4_shownBy_62 rfl (lv_at hl 0 rfl) ?_
    refine lv_goto (tgt := 85) hx hb dX4_shownBy_63 (by decide) ?_
    have hR6 : (fX4_shownBy kd pl x t) = ((pl t.toNatClampNeg) - (pl x.toNatClampNeg)) := (by unfold fX4_shownBy; rw [if_neg c2, if_neg c20, if_pos c59])
    rw [hQ]
    exact W.iret (v := ((pl t.toNatClampNeg) - (pl x.toNatClampNeg))) hx hb hr (fun t ht hW => ⟨_, rfl, hR6.symm, ht⟩) (fun q h => by cases h) dX4_shownBy_85
  refine lv_bipush (v := (-9)) hx hb dX4_shownBy_5 (by decide) ?_
  have hR7 : (fX4_shownBy kd pl x t) = (-9) := (by unfold fX4_shownBy; rw [if_pos c2])
  rw [hQ]
  exact W.iret (v := (-9)) hx hb hr (fun t ht hW => ⟨_, rfl, hR7.symm, ht⟩) (fun q h => by cases h) dX4_shownBy_7

def aX4_group_6 (v4_6 : Int32) : Int32 := v4_6
def sX4_group_6 (kd pl : Nat → Int32) (x v se : Int32) (k6 : Nat) (v4_6 : Int32) : (Int32) := (if ((se >>> ((nI k6) &&& 31)) &&& 1) = 1 then (if (fX4_shownBy kd pl x (nI k6)) = v then (v4_6 ||| (1 <<< ((nI k6) &&& 31))) else (v4_6 ||| 0)) else (v4_6 ||| 0))
def fX4_group (kd pl : Nat → Int32) (N : Nat) (x v se : Int32) : Int32 := (aX4_group_6  (lp (fun k a => sX4_group_6 kd pl x v se k a) 0 N))
theorem q_X4_group : yX4_group.cls = RX4 ∧ yX4_group.cls ≠ "java/lang/invoke/MethodHandle" ∧ yX4_group.cls ≠ "java/lang/invoke/VarHandle" ∧ (parseMethodDescriptor yX4_group.desc).map (fun d => d.parameters.length) = some 3 := by decide +kernel
set_option maxHeartbeats 4000000 in
set_option maxRecDepth 100000 in
theorem c_X4_group (l : Launch) (D : va_G) (cI cS : ClassId) (h m1 m2 m3 m4 m5 m6 m7 m8 m9 m10 m11 m12 m13 : Nat) (lf tr an pn gr ax ra rp rg rd : Int32) (so sl ces kd pl wt xk xp xw wo su ask shw : Nat → Int32) (N : Nat) (x v se : Int32) (ha : an = nI N) (hN : N ≤ 6) (hix : vp_in x 6) : PMi l yX4_group wsX4_group { frames := 1, cells := 0, slots := 0, locals := 23 } D cI cS (wMo cI h m1 m2 m3 m4 m5 m6 m7 m8 m9 m10 m11 m12 m13 lf tr an pn gr ax ra rp rg rd so sl ces kd pl wt xk xp xw wo su ask shw) [.ref h, .int x, .int v, .int se] (fX4_group kd pl N x v se) := by
  refine kEnter (cc := cX4_group) (maxL := 6) (ret := (some .int)) (by decide) rfl (Nat.le_of_ble_eq_true rfl) ?_
  intro p e s m below meth c ls Qf hQ hx hb hml hr hlocks hown hts hK hP hl
  have hown : s.vm.findClass RX4 = some m.cls := hown
  have hl : lv_has ls 6 [(0, .ref h), (1, .int x), (2, .int v), (3, .int se)] := hl
  refine lv_iconst (v := 0) hx hb dX4_group_0 (by decide) ?_
  refine lv_istore (lv' := [(4, .int 0), (0, .ref h), (1, .int x), (2, .int v), (3, .int se)]) hx hb dX4_group_1 hl (by decide) rfl (fun ls hl => ?_)
  refine lv_iconst (v := 0) hx hb dX4_group_3 (by decide) ?_
  refine lv_istore (lv' := [(5, .int 0), (4, .int 0), (0, .ref h), (1, .int x), (2, .int v), (3, .int se)]) hx hb dX4_group_4 hl (by decide) rfl (fun ls hl => ?_)
  have hR1 : (fX4_group kd pl N x v se) = (aX4_group_6  (lp (fun k a => sX4_group_6 kd pl x v se k a) 0 N)) := rfl
  have loop6 : ∀ (n k6 : Nat), k6 ≤ N → N + 1 ≤ k6 + n → ∀ (v4_6 : Int32), lp (fun k a => sX4_group_6 kd pl x v se k a) 0 k6 = v4_6 →  ∀ (ls : Array Slot), lv_has ls 6 [(0, .ref h), (1, .int x), (2, .int v), (3, .int se), (4, .int v4_6), (5, .int (nI k6))] → W p l e { frames := 1, cells := 0, slots := 0, locals := 23 } s m ([.ref h, .int x, .int v, .int se] : List Value).toArray below meth c s.heap [] 0 0 Qf (F0 m 6 ls []) := by
    intro n
    induction n with
    | zero => intro k6 h1 h2; exact absurd h2 (by omega)
    | succ n ih =>
      intro k6 hk6 hn6 v4_6 hacc6  ls hl
      have ih6 := ih
      refine lv_iload hx hb dX4_group_6 (lv_at hl 5 rfl) ?_
      refine lv_aload_n hx hb dX4_group_8 rfl (lv_at hl 0 rfl) ?_
      refine va_get (D := D) (ci := 4) (v := .int an) (C := RX4) (T := TX4) (N := 23) hx hb hts (fun _ h => List.mem_cons_of_mem _ (List.mem_append_right _ h)) hown hK.1 hP 0 rfl rfl 5 (by decide) (hts (.fieldLink RX4 59 "LieNightsModel" "answers" "I") (List.mem_of_getElem? (i := 1) rfl)) (fun _ h9 => h9) rfl dX4_group_9 ?_
      refine lv_icmp_ge (tgt := 55) hx hb dX4_group_12 (by decide) (fun c12 => ?_) (fun c12 => ?_)
      · skip
        have hkN : k6 = N := (kEnd hk6 rfl ha (by omega) c12)
        rw [hkN] at hacc6
        have hR2 : (fX4_group kd pl N x v se) = aX4_group_6  v4_6 := hR1.trans (lp_end (x := v4_6) (g := (fun a => aX4_group_6  a)) hacc6)
        refine lv_iload hx hb dX4_group_55 (lv_at hl 4 rfl) ?_
        have hR3 : (fX4_group kd pl N x v se) = v4_6 := hR2.trans rfl
        rw [hQ]
        exact W.iret (v := v4_6) hx hb hr (fun t ht hW => ⟨_, rfl, hR3.symm, ht⟩) (fun q h => by cases h) dX4_group_57
      have hlt6 : k6 < N := (kLt hk6 rfl ha c12)
      refine lv_iload hx hb dX4_group_15 (lv_at hl 4 rfl) ?_
      refine lv_iload_n hx hb dX4_group_17 rfl (lv_at hl 3 rfl) ?_
      refine lv_iload hx hb dX4_group_18 (lv_at hl 5 rfl) ?_
      refine lv_ishr hx hb dX4_group_20 ?_
      refine lv_iconst (v := 1) hx hb dX4_group_21 (by decide) ?_
      refine lv_iand hx hb dX4_group_22 ?_
      refine lv_iconst (v := 1) hx hb dX4_group_23 (by decide) ?_
      refine lv_icmp_ne (tgt := 45) hx hb dX4_group_24 (by decide) (fun c24 => ?_) (fun c24 => ?_)
      · skip
        refine lv_iconst (v := 0) hx hb dX4_group_45 (by decide) ?_
        refine lv_ior hx hb dX4_group_46 ?_
        refine lv_istore (lv' := [(4, .int (v4_6 ||| 0)), (0, .ref h), (1, .int x), (2, .int v), (3, .int se), (5, .int (nI k6))]) hx hb dX4_group_47 hl (by decide) rfl (fun ls hl => ?_)
        refine lv_iinc (v := (nI (k6 + 1))) (lv' := [(5, .int (nI (k6 + 1))), (4, .int (v4_6 ||| 0)), (0, .ref h), (1, .int x), (2, .int v), (3, .int se)]) hx hb dX4_group_49 hl (k := 5) rfl (nI_1 (k6)) (by decide) rfl (fun ls hl => ?_)
        refine lv_goto (tgt := 6) hx hb dX4_group_52 (by decide) ?_
        have hR4 : sX4_group_6 kd pl x v se k6 v4_6 = (v4_6 ||| 0) := (by unfold sX4_group_6; rw [if_neg c24])
        exact ih6 (k6 + 1) hlt6 (by omega) _ (lp_next hacc6 hR4)  ls (lv_sub hl [2, 3, 4, 5, 1, 0] rfl)
      refine lv_aload_n hx hb dX4_group_27 rfl (lv_at hl 0 rfl) ?_
      refine lv_iload_n hx hb dX4_group_28 rfl (lv_at hl 1 rfl) ?_
      refine lv_iload hx hb dX4_group_29 (lv_at hl 5 rfl) ?_
      refine kPi (va_runV (As := [.int x, .int (nI k6)]) (rest := [.int v4_6]) ⟨hx, hb, hml, hown, hts⟩ (c_X4_shownBy l D cI cS h m1 m2 m3 m4 m5 m6 m7 m8 m9 m10 m11 m12 m13 lf tr an pn gr ax ra rp rg rd so sl ces kd pl wt xk xp xw wo su ask shw x (nI k6) hix (vp_in_nI (by omega) (by decide))) (cwV 2 hts gX4_group_X4_shownBy rfl rfl rfl q_X4_shownBy ⟨Nat.le_of_ble_eq_true rfl, Nat.le_of_ble_eq_true rfl⟩) (kPV hK hP [0, 1, 2, 3, 4, 5, 6, 7, 8, 9, 10, 11, 12, 13] rfl (va_recv hK.1 hP (ci := 4) (q0 := 0) rfl rfl) [.int x, .int (nI k6)]) rfl rfl hl.1 rfl (lv_room (Nat.le_of_ble_eq_true rfl)) dX4_group_31 ⟨Nat.zero_le _, Nat.zero_le _⟩) ?_
      refine lv_iload_n hx hb dX4_group_34 rfl (lv_at hl 2 rfl) ?_
      refine lv_icmp_ne (tgt := 45) hx hb dX4_group_35 (by decide) (fun c35 => ?_) (fun c35 => ?_)
      · skip
        refine lv_iconst (v := 0) hx hb dX4_group_45 (by decide) ?_
        refine lv_ior hx hb dX4_group_46 ?_
        refine lv_istore (lv' := [(4, .int (v4_6 ||| 0)), (0, .ref h), (1, .int x), (2, .int v), (3, .int se), (5, .int (nI k6))]) hx hb dX4_group_47 hl (by decide) rfl (fun ls hl => ?_)
        refine lv_iinc (v := (nI (k6 + 1))) (lv' := [(5, .int (nI (k6 + 1))), (4, .int (v4_6 ||| 0)), (0, .ref h), (1, .int x), (2, .int v), (3, .int se)]) hx hb dX4_group_49 hl (k := 5) rfl (nI_1 (k6)) (by decide) rfl (fun ls hl => ?_)
        refine lv_goto (tgt := 6) hx hb dX4_group_52 (by decide) ?_
        have hR5 : sX4_group_6 kd pl x v se k6 v4_6 = (v4_6 ||| 0) := (by unfold sX4_group_6; rw [if_pos c24, if_neg c35])
        exact ih6 (k6 + 1) hlt6 (by omega) _ (lp_next hacc6 hR5)  ls (lv_sub hl [2, 3, 4, 5, 1, 0] rfl)
      refine lv_iconst (v := 1) hx hb dX4_group_38 (by decide) ?_
      refine lv_iload hx hb dX4_group_39 (lv_at hl 5 rfl) ?_
      refine lv_ishl hx hb dX4_group_41 ?_
      refine lv_goto (tgt := 46) hx hb dX4_group_42 (by decide) ?_
      refine lv_ior hx hb dX4_group_46 ?_
      refine lv_istore (lv' := [(4, .int (v4_6 ||| (1 <<< ((nI k6) &&& 31)))), (0, .ref h), (1, .int x), (2, .int v), (3, .int se), (5, .int (nI k6))]) hx hb dX4_group_47 hl (by decide) rfl (fun ls hl => ?_)
      refine lv_iinc (v := (nI (k6 + 1))) (lv' := [(5, .int (nI (k6 + 1))), (4, .int (v4_6 ||| (1 <<< ((nI k6) &&& 31)))), (0, .ref h), (1, .int x), (2, .int v), (3, .int se)]) hx hb dX4_group_49 hl (k := 5) rfl (nI_1 (k6)) (by decide) rfl (fun ls hl => ?_)
      refine lv_goto (tgt := 6) hx hb dX4_group_52 (by decide) ?_
      have hR6 : sX4_group_6 kd pl x v se k6 v4_6 = (v4_6 ||| (1 <<< ((nI k6) &&& 31))) := (by unfold sX4_group_6; rw [if_pos c24, if_pos c35])
      exact ih6 (k6 + 1) hlt6 (by omega) _ (lp_next hacc6 hR6)  ls (lv_sub hl [2, 3, 4, 5, 1, 0] rfl)
  exact loop6 (N + 1) 0 (Nat.zero_le _) (by omega) _ rfl  ls (lv_sub hl [2, 3, 4, 5, 1, 0] rfl)

def aX4_size_4 (v1_4 : Int32) : Int32 := v1_4
def sX4_size_4 (Se k4 : Nat) (v1_4 : Int32) : (Int32) ⊕ Int32 := (if (nI (Se / 2 ^ k4)) ≤ 0 then (.inr (aX4_size_4  v1_4)) else (.inl (v1_4 + ((nI (Se / 2 ^ k4)) &&& 1))))
def fX4_size (Se : Nat) : Int32 := (lqr (lq (fun k a => sX4_size_4 Se k a) 0 8) (fun a => aX4_size_4  a))
theorem q_X4_size : yX4_size.cls = RX4 ∧ yX4_size.cls ≠ "java/lang/invoke/MethodHandle" ∧ yX4_size.cls ≠ "java/lang/invoke/VarHandle" ∧ (parseMethodDescriptor yX4_size.desc).map (fun d => d.parameters.length) = some 1 := by decide +kernel
set_option maxHeartbeats 4000000 in
set_option maxRecDepth 100000 in
theorem c_X4_size (l : Launch) (D : va_G) (cI cS : ClassId) (Se : Nat) (se : Int32) (hse : se = nI Se) (hSe : Se < 64) : PMi l yX4_size wsX4_size { frames := 0, cells := 0, slots := 0, locals := 0 } D cI cS [] [.int se] (fX4_size Se) := by
  refine kEnter (cc := cX4_size) (maxL := 3) (ret := (some .int)) (by decide) rfl (Nat.le_of_ble_eq_true rfl) ?_
  intro p e s m below meth c ls Qf hQ hx hb hml hr hlocks hown hts hK hP hl
  have hown : s.vm.findClass RX4 = some m.cls := hown
  have hl : lv_has ls 3 [(0, .int se)] := hl
  refine lv_iconst (v := 0) hx hb dX4_size_0 (by decide) ?_
  refine lv_istore_n (lv' := [(1, .int 0), (0, .int se)]) hx hb dX4_size_1 rfl hl (by decide) rfl (fun ls hl => ?_)
  refine lv_iload_n hx hb dX4_size_2 rfl (lv_at hl 1 rfl) ?_
  refine lv_istore_n (lv' := [(2, .int se), (1, .int 0), (0, .int se)]) hx hb dX4_size_3 rfl hl (by decide) rfl (fun ls hl => ?_)
  have hR1 : (fX4_size Se) = (lqr (lq (fun k a => sX4_size_4 Se k a) 0 8) (fun a => aX4_size_4  a)) := rfl
  have aft4 : ∀ (v1_4 : Int32), (fX4_size Se) = aX4_size_4  v1_4 →  ∀ (ls : Array Slot), lv_has ls 3 [(0, .int se), (1, .int v1_4)] → W p l e { frames := 0, cells := 0, slots := 0, locals := 0 } s m ([.int se] : List Value).toArray below meth c s.heap [] 0 0 Qf (F0 m 21 ls []) := by
    intro v1_4 hRa4  ls hl
    refine lv_iload_n hx hb dX4_size_21 rfl (lv_at hl 1 rfl) ?_
    have hR2 : (fX4_size Se) = v1_4 := hRa4.trans rfl
    rw [hQ]
    exact W.iret (v := v1_4) hx hb hr (fun t ht hW => ⟨_, rfl, hR2.symm, ht⟩) (fun q h => by cases h) dX4_size_22
  have loop4 : ∀ (n k4 : Nat), k4 ≤ 8 → 8 + 1 ≤ k4 + n → ∀ (v1_4 : Int32), lq (fun k a => sX4_size_4 Se k a) 0 k4 = Sum.inl v1_4 → k4 ≤ 7 → ∀ (ls : Array Slot), lv_has ls 3 [(0, .int se), (1, .int v1_4), (2, .int (nI (Se / 2 ^ k4)))] → W p l e { frames := 0, cells := 0, slots := 0, locals := 0 } s m ([.int se] : List Value).toArray below meth c s.heap [] 0 0 Qf (F0 m 4 ls []) := by
    intro n
    induction n with
    | zero => intro k4 h1 h2; exact absurd h2 (by omega)
    | succ n ih =>
      intro k4 hk4 hn4 v1_4 hacc4 hk7 ls hl
      have ih4 := ih
      refine lv_iload_n hx hb dX4_size_4 rfl (lv_at hl 2 rfl) ?_
      have hlt4 : k4 < 8 := Nat.lt_succ_of_le hk7
      refine lv_if_le (tgt := 21) hx hb dX4_size_5 (by decide) (fun c5 => ?_) (fun c5 => ?_)
      · skip
        have hR3 : sX4_size_4 Se k4 v1_4 = (.inr (aX4_size_4  v1_4)) := (by unfold sX4_size_4; rw [if_pos c5])
        have hR4 : (fX4_size Se) = aX4_size_4  v1_4 := hR1.trans (lq_exit hacc4 hR3 hlt4)
        exact aft4 _ hR4  ls (lv_sub hl [0, 1] rfl)
      refine lv_iload_n hx hb dX4_size_8 rfl (lv_at hl 1 rfl) ?_
      refine lv_iload_n hx hb dX4_size_9 rfl (lv_at hl 2 rfl) ?_
      refine lv_iconst (v := 1) hx hb dX4_size_10 (by decide) ?_
      refine lv_iand hx hb dX4_size_11 ?_
      refine lv_iadd hx hb dX4_size_12 ?_
      refine lv_istore_n (lv' := [(1, .int (v1_4 + ((nI (Se / 2 ^ k4)) &&& 1))), (0, .int se), (2, .int (nI (Se / 2 ^ k4)))]) hx hb dX4_size_13 rfl hl (by decide) rfl (fun ls hl => ?_)
      refine lv_iload_n hx hb dX4_size_14 rfl (lv_at hl 2 rfl) ?_
      refine lv_iconst (v := 1) hx hb dX4_size_15 (by decide) ?_
      refine lv_ishr hx hb dX4_size_16 ?_
      refine lv_istore_n (lv' := [(2, .int ((nI (Se / 2 ^ k4)) >>> (1 &&& 31))), (1, .int (v1_4 + ((nI (Se / 2 ^ k4)) &&& 1))), (0, .int se)]) hx hb dX4_size_17 rfl hl (by decide) rfl (fun ls hl => ?_)
      refine lv_goto (tgt := 4) hx hb dX4_size_18 (by decide) ?_
      have hR5 : sX4_size_4 Se k4 v1_4 = (.inl (v1_4 + ((nI (Se / 2 ^ k4)) &&& 1))) := (by unfold sX4_size_4; rw [if_neg c5])
      exact ih4 (k4 + 1) hlt4 (by omega) _ (lq_next hacc4 hR5) (mSz hSe c5) ls (lv_sub hl [2, 1, 0] (by rw [mShr hSe]; rfl))
  exact loop4 (8 + 1) 0 (Nat.zero_le _) (by omega) _ rfl (Nat.zero_le _) ls (lv_sub hl [2, 1, 0] (by rw [hse, show nI Se = nI (Se / 2 ^ 0) by rw [Nat.pow_zero, Nat.div_one]]; rfl))

def fX4_isSign (ax : Int32) (ces : Nat → Int32) (en co : Int32) : Int32 × Int32 := (if (en : Int32) ≤ ax then (0, ax) else (if (ces ax.toNatClampNeg) = co then (1, (ax + 1)) else (0, ax)))
theorem q_X4_isSign : yX4_isSign.cls = RX4 ∧ yX4_isSign.cls ≠ "java/lang/invoke/MethodHandle" ∧ yX4_isSign.cls ≠ "java/lang/invoke/VarHandle" ∧ (parseMethodDescriptor yX4_isSign.desc).map (fun d => d.parameters.length) = some 2 := by decide +kernel
set_option maxHeartbeats 4000000 in
set_option maxRecDepth 100000 in
theorem c_X4_isSign (l : Launch) (D : va_G) (cI cS : ClassId) (h m1 m2 m3 m4 m5 m6 m7 m8 m9 m10 m11 m12 m13 : Nat) (lf tr an pn gr ax ra rp rg rd : Int32) (so sl ces kd pl wt xk xp xw wo su ask shw : Nat → Int32) (en co : Int32) (hax : ¬ ax < 0) (hE : en ≤ 240) : MMi l yX4_isSign wsX4_isSign { frames := 0, cells := 0, slots := 0, locals := 0 } D cI cS (wMo cI h m1 m2 m3 m4 m5 m6 m7 m8 m9 m10 m11 m12 m13 lf tr an pn gr ax ra rp rg rd so sl ces kd pl wt xk xp xw wo su ask shw) [.ref h, .int en, .int co] ((fX4_isSign ax ces en co).1) (wMo cI h m1 m2 m3 m4 m5 m6 m7 m8 m9 m10 m11 m12 m13 lf tr an pn gr ((fX4_isSign ax ces en co).2) ra rp rg rd so sl ces kd pl wt xk xp xw wo su ask shw) := by
  refine kEnterM (cc := cX4_isSign) (maxL := 3) (ret := (some .boolean)) (by decide) rfl (Nat.le_of_ble_eq_true rfl) ?_
  intro p e s m below meth c ls Qf hQ hx hb hml hr hlocks hown hts hK hP hD hS hl
  have hown : s.vm.findClass RX4 = some m.cls := hown
  have hl : lv_has ls 3 [(0, .ref h), (1, .int en), (2, .int co)] := hl
  generalize kA (wMo cI h m1 m2 m3 m4 m5 m6 m7 m8 m9 m10 m11 m12 m13 lf tr an pn gr ax ra rp rg rd so sl ces kd pl wt xk xp xw wo su ask shw) = A at hQ hD hS
  refine lv_aload_n hx hb dX4_isSign_0 rfl (lv_at hl 0 rfl) ?_
  refine va_get (D := D) (ci := 4) (v := .int ax) (C := RX4) (T := TX4) (N := 23) hx hb hts (fun _ h => List.mem_cons_of_mem _ (List.mem_append_right _ h)) hown hK.1 hP 0 rfl rfl 11 (by decide) (hts (.fieldLink RX4 62 "LieNightsModel" "at" "I") (List.mem_of_getElem? (i := 1) rfl)) (fun _ h9 => h9) rfl dX4_isSign_1 ?_
  refine lv_iload_n hx hb dX4_isSign_4 rfl (lv_at hl 1 rfl) ?_
  refine lv_icmp_ge (tgt := 21) hx hb dX4_isSign_5 (by decide) (fun c5 => ?_) (fun c5 => ?_)
  · skip
    refine lv_iconst (v := 0) hx hb dX4_isSign_21 (by decide) ?_
    have hR1 : (fX4_isSign ax ces en co) = (0, ax) := (by unfold fX4_isSign; rw [if_pos c5])
    rw [hQ]
    exact W.zret (v := 0) (ty := .boolean) hx hb hr rfl (fun t ht hW => ⟨⟨_, (), rfl, (by show _ = _; rw [hR1]), (by show va_P D vwCl _ t.heap; rw [hR1, ht]; exact hP)⟩, hS.F ht⟩) hS.2.2 dX4_isSign_22
  refine lv_aload_n hx hb dX4_isSign_8 rfl (lv_at hl 0 rfl) ?_
  refine va_get (D := D) (ci := 4) (v := .ref m3) (C := RX4) (T := TX4) (N := 23) hx hb hts (fun _ h => List.mem_cons_of_mem _ (List.mem_append_right _ h)) hown hK.1 hP 0 rfl rfl 4 (by decide) (hts (.fieldLink RX4 16 "LieNightsModel" "cells" "[I") (List.mem_of_getElem? (i := 2) rfl)) (fun _ h9 => h9) rfl dX4_isSign_9 ?_
  refine lv_aload_n hx hb dX4_isSign_12 rfl (lv_at hl 0 rfl) ?_
  refine va_get (D := D) (ci := 4) (v := .int ax) (C := RX4) (T := TX4) (N := 23) hx hb hts (fun _ h => List.mem_cons_of_mem _ (List.mem_append_right _ h)) hown hK.1 hP 0 rfl rfl 11 (by decide) (hts (.fieldLink RX4 62 "LieNightsModel" "at" "I") (List.mem_of_getElem? (i := 1) rfl)) (fun _ h9 => h9) rfl dX4_isSign_13 ?_
  refine va_iald hx hb hK.1 hP 3 0 rfl rfl (mIx hax hE c5) dX4_isSign_16 ?_
  refine lv_iload_n hx hb dX4_isSign_17 rfl (lv_at hl 2 rfl) ?_
  refine lv_icmp_eq (tgt := 23) hx hb dX4_isSign_18 (by decide) (fun c18 => ?_) (fun c18 => ?_)
  · skip
    refine lv_aload_n hx hb dX4_isSign_23 rfl (lv_at hl 0 rfl) ?_
    refine lv_dup hx hb dX4_isSign_24 rfl ?_
    refine va_get (D := D) (ci := 4) (v := .int ax) (C := RX4) (T := TX4) (N := 23) hx hb hts (fun _ h => List.mem_cons_of_mem _ (List.mem_append_right _ h)) hown hK.1 hP 0 rfl rfl 11 (by decide) (hts (.fieldLink RX4 62 "LieNightsModel" "at" "I") (List.mem_of_getElem? (i := 1) rfl)) (fun _ h9 => h9) rfl dX4_isSign_25 ?_
    refine lv_iconst (v := 1) hx hb dX4_isSign_28 (by decide) ?_
    refine lv_iadd hx hb dX4_isSign_29 ?_
    refine va_put (D := D) (ci := 4) (v := .int (ax + 1)) (ty := tyX4 11) (C := RX4) (T := TX4) (N := 23) hx hb hts (fun _ h => List.mem_cons_of_mem _ (List.mem_append_right _ h)) tyX4 tyX4_ok nmX4 hown hK.1 hP hD hS 0 rfl rfl 11 (by decide) (hts (.fieldLink RX4 62 "LieNightsModel" "at" "I") (List.mem_of_getElem? (i := 1) rfl)) (fun _ h9 => h9) rfl (tyX4_ok 11 (by decide)) rfl rfl (Nat.le_of_ble_eq_true rfl) dX4_isSign_30 (fun H locs hP hD hS => ?_)
    have hP : va_P D vwCl (wMo cI h m1 m2 m3 m4 m5 m6 m7 m8 m9 m10 m11 m12 m13 lf tr an pn gr (ax + 1) ra rp rg rd so sl ces kd pl wt xk xp xw wo su ask shw) H := hP
    have hD : va_D A (wMo cI h m1 m2 m3 m4 m5 m6 m7 m8 m9 m10 m11 m12 m13 lf tr an pn gr (ax + 1) ra rp rg rd so sl ces kd pl wt xk xp xw wo su ask shw) := hD
    refine lv_iconst (v := 1) hx hb dX4_isSign_33 (by decide) ?_
    have hR2 : (fX4_isSign ax ces en co) = (1, (ax + 1)) := (by unfold fX4_isSign; rw [if_neg c5, if_pos c18])
    rw [hQ]
    exact W.zret (v := 1) (ty := .boolean) hx hb hr rfl (fun t ht hW => ⟨⟨_, (), rfl, (by show _ = _; rw [hR2]), (by show va_P D vwCl _ t.heap; rw [hR2, ht]; exact hP)⟩, hS.F ht⟩) hS.2.2 dX4_isSign_34
  refine lv_iconst (v := 0) hx hb dX4_isSign_21 (by decide) ?_
  have hR3 : (fX4_isSign ax ces en co) = (0, ax) := (by unfold fX4_isSign; rw [if_neg c5, if_neg c18])
  rw [hQ]
  exact W.zret (v := 0) (ty := .boolean) hx hb hr rfl (fun t ht hW => ⟨⟨_, (), rfl, (by show _ = _; rw [hR3]), (by show va_P D vwCl _ t.heap; rw [hR3, ht]; exact hP)⟩, hS.F ht⟩) hS.2.2 dX4_isSign_22

def fX4_digit (ax : Int32) (ces : Nat → Int32) (en mi : Int32) : Int32 × Int32 := (if (en : Int32) ≤ ax then ((-9), ax) else (if (fX4_within (ces ax.toNatClampNeg) (48 + mi) 57) = 0 then ((-9), ax) else (((ces ((ax + 1) - 1).toNatClampNeg) - 48), (ax + 1))))
theorem q_X4_digit : yX4_digit.cls = RX4 ∧ yX4_digit.cls ≠ "java/lang/invoke/MethodHandle" ∧ yX4_digit.cls ≠ "java/lang/invoke/VarHandle" ∧ (parseMethodDescriptor yX4_digit.desc).map (fun d => d.parameters.length) = some 2 := by decide +kernel
set_option maxHeartbeats 4000000 in
set_option maxRecDepth 100000 in
theorem c_X4_digit (l : Launch) (D : va_G) (cI cS : ClassId) (h m1 m2 m3 m4 m5 m6 m7 m8 m9 m10 m11 m12 m13 : Nat) (lf tr an pn gr ax ra rp rg rd : Int32) (so sl ces kd pl wt xk xp xw wo su ask shw : Nat → Int32) (en mi : Int32) (hax : ¬ ax < 0) (hE : en ≤ 240) : MMi l yX4_digit wsX4_digit { frames := 1, cells := 0, slots := 0, locals := 22 } D cI cS (wMo cI h m1 m2 m3 m4 m5 m6 m7 m8 m9 m10 m11 m12 m13 lf tr an pn gr ax ra rp rg rd so sl ces kd pl wt xk xp xw wo su ask shw) [.ref h, .int en, .int mi] ((fX4_digit ax ces en mi).1) (wMo cI h m1 m2 m3 m4 m5 m6 m7 m8 m9 m10 m11 m12 m13 lf tr an pn gr ((fX4_digit ax ces en mi).2) ra rp rg rd so sl ces kd pl wt xk xp xw wo su ask shw) := by
  refine kEnterM (cc := cX4_digit) (maxL := 3) (ret := (some .int)) (by decide) rfl (Nat.le_of_ble_eq_true rfl) ?_
  intro p e s m below meth c ls Qf hQ hx hb hml hr hlocks hown hts hK hP hD hS hl
  have hown : s.vm.findClass RX4 = some m.cls := hown
  have hl : lv_has ls 3 [(0, .ref h), (1, .int en), (2, .int mi)] := hl
  generalize kA (wMo cI h m1 m2 m3 m4 m5 m6 m7 m8 m9 m10 m11 m12 m13 lf tr an pn gr ax ra rp rg rd so sl ces kd pl wt xk xp xw wo su ask shw) = A at hQ hD hS
  refine lv_aload_n hx hb dX4_digit_0 rfl (lv_at hl 0 rfl) ?_
  refine va_get (D := D) (ci := 4) (v := .int ax) (C := RX4) (T := TX4) (N := 23) hx hb hts (fun _ h => List.mem_cons_of_mem _ (List.mem_append_right _ h)) hown hK.1 hP 0 rfl rfl 11 (by decide) (hts (.fieldLink RX4 62 "LieNightsModel" "at" "I") (List.mem_of_getElem? (i := 1) rfl)) (fun _ h9 => h9) rfl dX4_digit_1 ?_
  refine lv_iload_n hx hb dX4_digit_4 rfl (lv_at hl 1 rfl) ?_
  refine lv_icmp_ge (tgt := 29) hx hb dX4_digit_5 (by decide) (fun c5 => ?_) (fun c5 => ?_)
  · skip
    refine lv_bipush (v := (-9)) hx hb dX4_digit_29 (by decide) ?_
    have hR1 : (fX4_digit ax ces en mi) = ((-9), ax) := (by unfold fX4_digit; rw [if_pos c5])
    rw [hQ]
    exact W.iret (v := (-9)) hx hb hr (fun t ht hW => ⟨⟨_, (), rfl, (by show _ = _; rw [hR1]), (by show va_P D vwCl _ t.heap; rw [hR1, ht]; exact hP)⟩, hS.F ht⟩) hS.2.2 dX4_digit_31
  refine lv_aload_n hx hb dX4_digit_8 rfl (lv_at hl 0 rfl) ?_
  refine va_get (D := D) (ci := 4) (v := .ref m3) (C := RX4) (T := TX4) (N := 23) hx hb hts (fun _ h => List.mem_cons_of_mem _ (List.mem_append_right _ h)) hown hK.1 hP 0 rfl rfl 4 (by decide) (hts (.fieldLink RX4 16 "LieNightsModel" "cells" "[I") (List.mem_of_getElem? (i := 2) rfl)) (fun _ h9 => h9) rfl dX4_digit_9 ?_
  refine lv_aload_n hx hb dX4_digit_12 rfl (lv_at hl 0 rfl) ?_
  refine va_get (D := D) (ci := 4) (v := .int ax) (C := RX4) (T := TX4) (N := 23) hx hb hts (fun _ h => List.mem_cons_of_mem _ (List.mem_append_right _ h)) hown hK.1 hP 0 rfl rfl 11 (by decide) (hts (.fieldLink RX4 62 "LieNightsModel" "at" "I") (List.mem_of_getElem? (i := 1) rfl)) (fun _ h9 => h9) rfl dX4_digit_13 ?_
  refine va_iald hx hb hK.1 hP 3 0 rfl rfl (mIx hax hE c5) dX4_digit_16 ?_
  refine lv_bipush (v := 48) hx hb dX4_digit_17 (by decide) ?_
  refine lv_iload_n hx hb dX4_digit_19 rfl (lv_at hl 2 rfl) ?_
  refine lv_iadd hx hb dX4_digit_20 ?_
  refine lv_bipush (v := 57) hx hb dX4_digit_21 (by decide) ?_
  refine kPi (va_runS (As := [.int (ces ax.toNatClampNeg), .int (48 + mi), .int 57]) (rest := []) ⟨hx, hb, hml, hown, hts⟩ (c_X4_within l D cI cS (ces ax.toNatClampNeg) (48 + mi) 57) (va_cwS 3 hts gX4_digit_X4_within rfl rfl rfl q_X4_within.2 ⟨Nat.le_of_ble_eq_true rfl, Nat.le_of_ble_eq_true rfl⟩) (kPS hK hP [] rfl [.int (ces ax.toNatClampNeg), .int (48 + mi), .int 57]) rfl rfl hl.1 rfl (lv_room (Nat.le_of_ble_eq_true rfl)) dX4_digit_23 ⟨Nat.zero_le _, Nat.zero_le _⟩) ?_
  refine lv_if_ne (tgt := 32) hx hb dX4_digit_26 (by decide) (fun c26 => ?_) (fun c26 => ?_)
  · skip
    refine lv_aload_n hx hb dX4_digit_32 rfl (lv_at hl 0 rfl) ?_
    refine lv_dup hx hb dX4_digit_33 rfl ?_
    refine va_get (D := D) (ci := 4) (v := .int ax) (C := RX4) (T := TX4) (N := 23) hx hb hts (fun _ h => List.mem_cons_of_mem _ (List.mem_append_right _ h)) hown hK.1 hP 0 rfl rfl 11 (by decide) (hts (.fieldLink RX4 62 "LieNightsModel" "at" "I") (List.mem_of_getElem? (i := 1) rfl)) (fun _ h9 => h9) rfl dX4_digit_34 ?_
    refine lv_iconst (v := 1) hx hb dX4_digit_37 (by decide) ?_
    refine lv_iadd hx hb dX4_digit_38 ?_
    refine va_put (D := D) (ci := 4) (v := .int (ax + 1)) (ty := tyX4 11) (C := RX4) (T := TX4) (N := 23) hx hb hts (fun _ h => List.mem_cons_of_mem _ (List.mem_append_right _ h)) tyX4 tyX4_ok nmX4 hown hK.1 hP hD hS 0 rfl rfl 11 (by decide) (hts (.fieldLink RX4 62 "LieNightsModel" "at" "I") (List.mem_of_getElem? (i := 1) rfl)) (fun _ h9 => h9) rfl (tyX4_ok 11 (by decide)) rfl rfl (Nat.le_of_ble_eq_true rfl) dX4_digit_39 (fun H locs hP hD hS => ?_)
    have hP : va_P D vwCl (wMo cI h m1 m2 m3 m4 m5 m6 m7 m8 m9 m10 m11 m12 m13 lf tr an pn gr (ax + 1) ra rp rg rd so sl ces kd pl wt xk xp xw wo su ask shw) H := hP
    have hD : va_D A (wMo cI h m1 m2 m3 m4 m5 m6 m7 m8 m9 m10 m11 m12 m13 lf tr an pn gr (ax + 1) ra rp rg rd so sl ces kd pl wt xk xp xw wo su ask shw) := hD
    refine lv_aload_n hx hb dX4_digit_42 rfl (lv_at hl 0 rfl) ?_
    refine va_get (D := D) (ci := 4) (v := .ref m3) (C := RX4) (T := TX4) (N := 23) hx hb hts (fun _ h => List.mem_cons_of_mem _ (List.mem_append_right _ h)) hown hK.1 hP 0 rfl rfl 4 (by decide) (hts (.fieldLink RX4 16 "LieNightsModel" "cells" "[I") (List.mem_of_getElem? (i := 2) rfl)) (fun _ h9 => h9) rfl dX4_digit_43 ?_
    refine lv_aload_n hx hb dX4_digit_46 rfl (lv_at hl 0 rfl) ?_
    refine va_get (D := D) (ci := 4) (v := .int (ax + 1)) (C := RX4) (T := TX4) (N := 23) hx hb hts (fun _ h => List.mem_cons_of_mem _ (List.mem_append_right _ h)) hown hK.1 hP 0 rfl rfl 11 (by decide) (hts (.fieldLink RX4 62 "LieNightsModel" "at" "I") (List.mem_of_getElem? (i := 1) rfl)) (fun _ h9 => h9) rfl dX4_digit_47 ?_
    refine lv_iconst (v := 1) hx hb dX4_digit_50 (by decide) ?_
    refine lv_isub hx hb dX4_digit_51 ?_
    refine va_iald hx hb hK.1 hP 3 0 rfl rfl (mIx1 hax hE c5) dX4_digit_52 ?_
    refine lv_bipush (v := 48) hx hb dX4_digit_53 (by decide) ?_
    refine lv_isub hx hb dX4_digit_55 ?_
    have hR2 : (fX4_digit ax ces en mi) = (((ces ((ax + 1) - 1).toNatClampNeg) - 48), (ax + 1)) := (by unfold fX4_digit; rw [if_neg c5, if_neg c26])
    rw [hQ]
    exact W.iret (v := ((ces ((ax + 1) - 1).toNatClampNeg) - 48)) hx hb hr (fun t ht hW => ⟨⟨_, (), rfl, (by show _ = _; rw [hR2]), (by show va_P D vwCl _ t.heap; rw [hR2, ht]; exact hP)⟩, hS.F ht⟩) hS.2.2 dX4_digit_56
  refine lv_bipush (v := (-9)) hx hb dX4_digit_29 (by decide) ?_
  have hR3 : (fX4_digit ax ces en mi) = ((-9), ax) := (by unfold fX4_digit; rw [if_neg c5, if_pos c26])
  rw [hQ]
  exact W.iret (v := (-9)) hx hb hr (fun t ht hW => ⟨⟨_, (), rfl, (by show _ = _; rw [hR3]), (by show va_P D vwCl _ t.heap; rw [hR3, ht]; exact hP)⟩, hS.F ht⟩) hS.2.2 dX4_digit_31

theorem q_X4_begins : yX4_begins.cls = RX4 ∧ yX4_begins.cls ≠ "java/lang/invoke/MethodHandle" ∧ yX4_begins.cls ≠ "java/lang/invoke/VarHandle" ∧ (parseMethodDescriptor yX4_begins.desc).map (fun d => d.parameters.length) = some 1 := by decide +kernel
set_option maxHeartbeats 4000000 in
set_option maxRecDepth 100000 in
theorem c_X4_begins (l : Launch) (D : va_G) (cI cS : ClassId) (h m1 m2 m3 m4 m5 m6 m7 m8 m9 m10 m11 m12 m13 : Nat) (lf tr an pn gr ax ra rp rg rd : Int32) (so sl ces kd pl wt xk xp xw wo su ask shw : Nat → Int32) (nu : Int32)  : MMv l yX4_begins wsX4_begins { frames := 0, cells := 0, slots := 0, locals := 0 } D cI cS (wMo cI h m1 m2 m3 m4 m5 m6 m7 m8 m9 m10 m11 m12 m13 lf tr an pn gr ax ra rp rg rd so sl ces kd pl wt xk xp xw wo su ask shw) [.ref h, .int nu] (wMo cI h m1 m2 m3 m4 m5 m6 m7 m8 m9 m10 m11 m12 m13 lf ((31 * tr) + nu) an pn gr ax ra rp rg rd so sl ces kd pl wt xk xp xw wo su ask shw) := by
  refine kEnterM (cc := cX4_begins) (maxL := 2) (ret := none) (by decide) rfl (Nat.le_of_ble_eq_true rfl) ?_
  intro p e s m below meth c ls Qf hQ hx hb hml hr hlocks hown hts hK hP hD hS hl
  have hown : s.vm.findClass RX4 = some m.cls := hown
  have hl : lv_has ls 2 [(0, .ref h), (1, .int nu)] := hl
  generalize kA (wMo cI h m1 m2 m3 m4 m5 m6 m7 m8 m9 m10 m11 m12 m13 lf tr an pn gr ax ra rp rg rd so sl ces kd pl wt xk xp xw wo su ask shw) = A at hQ hD hS
  refine lv_aload_n hx hb dX4_begins_0 rfl (lv_at hl 0 rfl) ?_
  refine lv_bipush (v := 31) hx hb dX4_begins_1 (by decide) ?_
  refine lv_aload_n hx hb dX4_begins_3 rfl (lv_at hl 0 rfl) ?_
  refine va_get (D := D) (ci := 4) (v := .int tr) (C := RX4) (T := TX4) (N := 23) hx hb hts (fun _ h => List.mem_cons_of_mem _ (List.mem_append_right _ h)) hown hK.1 hP 0 rfl rfl 1 (by decide) (hts (.fieldLink RX4 162 "LieNightsModel" "trace" "I") (List.mem_of_getElem? (i := 1) rfl)) (fun _ h9 => h9) rfl dX4_begins_4 ?_
  refine lv_imul hx hb dX4_begins_7 ?_
  refine lv_iload_n hx hb dX4_begins_8 rfl (lv_at hl 1 rfl) ?_
  refine lv_iadd hx hb dX4_begins_9 ?_
  refine va_put (D := D) (ci := 4) (v := .int ((31 * tr) + nu)) (ty := tyX4 1) (C := RX4) (T := TX4) (N := 23) hx hb hts (fun _ h => List.mem_cons_of_mem _ (List.mem_append_right _ h)) tyX4 tyX4_ok nmX4 hown hK.1 hP hD hS 0 rfl rfl 1 (by decide) (hts (.fieldLink RX4 162 "LieNightsModel" "trace" "I") (List.mem_of_getElem? (i := 1) rfl)) (fun _ h9 => h9) rfl (tyX4_ok 1 (by decide)) rfl rfl (Nat.le_of_ble_eq_true rfl) dX4_begins_10 (fun H locs hP hD hS => ?_)
  have hP : va_P D vwCl (wMo cI h m1 m2 m3 m4 m5 m6 m7 m8 m9 m10 m11 m12 m13 lf ((31 * tr) + nu) an pn gr ax ra rp rg rd so sl ces kd pl wt xk xp xw wo su ask shw) H := hP
  have hD : va_D A (wMo cI h m1 m2 m3 m4 m5 m6 m7 m8 m9 m10 m11 m12 m13 lf ((31 * tr) + nu) an pn gr ax ra rp rg rd so sl ces kd pl wt xk xp xw wo su ask shw) := hD
  rw [hQ]
  exact W.vret hx hb hr (fun t ht hW => ⟨⟨(), rfl, trivial, (by show va_P D vwCl _ t.heap; rw [ht]; exact hP)⟩, hS.F ht⟩) hS.2.2 dX4_begins_13
