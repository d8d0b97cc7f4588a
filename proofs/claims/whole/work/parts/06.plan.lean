def fX0_worstOf (wo : Nat → Int32) (se : Int32) : Int32 := (fX3_at 64 wo se)
theorem q_X0_worstOf : yX0_worstOf.cls = RX0 ∧ yX0_worstOf.cls ≠ "java/lang/invoke/MethodHandle" ∧ yX0_worstOf.cls ≠ "java/lang/invoke/VarHandle" ∧ (parseMethodDescriptor yX0_worstOf.desc).map (fun d => d.parameters.length) = some 1 := by decide +kernel
set_option maxHeartbeats 4000000 in
set_option maxRecDepth 100000 in
theorem c_X0_worstOf (l : Launch) (D : va_G) (cI cS : ClassId) (h p1 p2 p3 p4 : Nat) (al wo fi ni : Nat → Int32) (pa se : Int32)  : PMi l yX0_worstOf wsX0_worstOf { frames := 1, cells := 0, slots := 0, locals := 21 } D cI cS (wPl cI h p1 p2 p3 p4 al wo fi ni pa) [.ref h, .int se] (fX0_worstOf wo se) := by
  refine kEnter (cc := cX0_worstOf) (maxL := 2) (ret := (some .int)) (by decide) rfl (Nat.le_of_ble_eq_true rfl) ?_
  intro p e s m below meth c ls Qf hQ hx hb hml hr hlocks hown hts hK hP hl
  have hown : s.vm.findClass RX0 = some m.cls := hown
  have hl : lv_has ls 2 [(0, .ref h), (1, .int se)] := hl
  refine lv_aload_n hx hb dX0_worstOf_0 rfl (lv_at hl 0 rfl) ?_
  refine va_get (D := D) (ci := 0) (v := .ref p2) (C := RX0) (T := TX0) (N := 5) hx hb hts (fun _ h => List.mem_cons_of_mem _ (List.mem_append_right _ h)) hown hK.1 hP 0 rfl rfl 1 (by decide) (hts (.fieldLink RX0 17 "LieNights$Plan" "worst" "[I") (List.mem_of_getElem? (i := 1) rfl)) (fun _ h9 => h9) rfl dX0_worstOf_1 ?_
  refine lv_iload_n hx hb dX0_worstOf_4 rfl (lv_at hl 1 rfl) ?_
  refine kPi (va_runSN (As := [.ref p2, .int se]) (rest := []) ⟨hx, hb, hml, hown, hts⟩ (c_X3_at l D cI cS p2 64 wo se (by decide)) ⟨va_cnB 2 hts gX0_worstOf_X3_at_n26 rfl rfl rfl (hK.2.at 10 (q := (RX0, 26, yX3_at, "LieNights")) rfl) (hts _ (List.mem_of_getElem? (i := 3) rfl)) q_X3_at.2 ⟨Nat.le_of_ble_eq_true rfl, Nat.le_of_ble_eq_true rfl⟩, hts _ (List.mem_of_getElem? (i := 2) rfl), trivial⟩ (kPS hK hP [2] rfl [.ref p2, .int se]) rfl rfl hl.1 rfl (lv_room (Nat.le_of_ble_eq_true rfl)) dX0_worstOf_5 ⟨Nat.zero_le _, Nat.zero_le _⟩) ?_
  have hR1 : (fX0_worstOf wo se) = (fX3_at 64 wo se) := rfl
  rw [hQ]
  exact W.iret (v := (fX3_at 64 wo se)) hx hb hr (fun t ht hW => ⟨_, rfl, hR1.symm, ht⟩) (fun q h => by cases h) dX0_worstOf_8

def fX0_askOf (fi : Nat → Int32) (se : Int32) : Int32 := (if se = 0 then (-9) else (fX3_at 64 fi se))
theorem q_X0_askOf : yX0_askOf.cls = RX0 ∧ yX0_askOf.cls ≠ "java/lang/invoke/MethodHandle" ∧ yX0_askOf.cls ≠ "java/lang/invoke/VarHandle" ∧ (parseMethodDescriptor yX0_askOf.desc).map (fun d => d.parameters.length) = some 1 := by decide +kernel
set_option maxHeartbeats 4000000 in
set_option maxRecDepth 100000 in
theorem c_X0_askOf (l : Launch) (D : va_G) (cI cS : ClassId) (h p1 p2 p3 p4 : Nat) (al wo fi ni : Nat → Int32) (pa se : Int32)  : PMi l yX0_askOf wsX0_askOf { frames := 1, cells := 0, slots := 0, locals := 21 } D cI cS (wPl cI h p1 p2 p3 p4 al wo fi ni pa) [.ref h, .int se] (fX0_askOf fi se) := by
  refine kEnter (cc := cX0_askOf) (maxL := 2) (ret := (some .int)) (by decide) rfl (Nat.le_of_ble_eq_true rfl) ?_
  intro p e s m below meth c ls Qf hQ hx hb hml hr hlocks hown hts hK hP hl
  have hown : s.vm.findClass RX0 = some m.cls := hown
  have hl : lv_has ls 2 [(0, .ref h), (1, .int se)] := hl
  refine lv_iload_n hx hb dX0_askOf_0 rfl (lv_at hl 1 rfl) ?_
  refine lv_if_ne (tgt := 9) hx hb dX0_askOf_1 (by decide) (fun c1 => ?_) (fun c1 => ?_)
  · skip
    refine lv_aload_n hx hb dX0_askOf_9 rfl (lv_at hl 0 rfl) ?_
    refine va_get (D := D) (ci := 0) (v := .ref p3) (C := RX0) (T := TX0) (N := 5) hx hb hts (fun _ h => List.mem_cons_of_mem _ (List.mem_append_right _ h)) hown hK.1 hP 0 rfl rfl 2 (by decide) (hts (.fieldLink RX0 20 "LieNights$Plan" "first" "[I") (List.mem_of_getElem? (i := 1) rfl)) (fun _ h9 => h9) rfl dX0_askOf_10 ?_
    refine lv_iload_n hx hb dX0_askOf_13 rfl (lv_at hl 1 rfl) ?_
    refine kPi (va_runSN (As := [.ref p3, .int se]) (rest := []) ⟨hx, hb, hml, hown, hts⟩ (c_X3_at l D cI cS p3 64 fi se (by decide)) ⟨va_cnB 2 hts gX0_askOf_X3_at_n26 rfl rfl rfl (hK.2.at 10 (q := (RX0, 26, yX3_at, "LieNights")) rfl) (hts _ (List.mem_of_getElem? (i := 3) rfl)) q_X3_at.2 ⟨Nat.le_of_ble_eq_true rfl, Nat.le_of_ble_eq_true rfl⟩, hts _ (List.mem_of_getElem? (i := 2) rfl), trivial⟩ (kPS hK hP [3] rfl [.ref p3, .int se]) rfl rfl hl.1 rfl (lv_room (Nat.le_of_ble_eq_true rfl)) dX0_askOf_14 ⟨Nat.zero_le _, Nat.zero_le _⟩) ?_
    have hR1 : (fX0_askOf fi se) = (fX3_at 64 fi se) := (by unfold fX0_askOf; rw [if_neg c1])
    rw [hQ]
    exact W.iret (v := (fX3_at 64 fi se)) hx hb hr (fun t ht hW => ⟨_, rfl, hR1.symm, ht⟩) (fun q h => by cases h) dX0_askOf_17
  refine lv_bipush (v := (-9)) hx hb dX0_askOf_4 (by decide) ?_
  refine lv_goto (tgt := 17) hx hb dX0_askOf_6 (by decide) ?_
  have hR2 : (fX0_askOf fi se) = (-9) := (by unfold fX0_askOf; rw [if_pos c1])
  rw [hQ]
  exact W.iret (v := (-9)) hx hb hr (fun t ht hW => ⟨_, rfl, hR2.symm, ht⟩) (fun q h => by cases h) dX0_askOf_17

def fX0_nightsOf (ni : Nat → Int32) (se : Int32) : Int32 := (fX3_at 64 ni se)
theorem q_X0_nightsOf : yX0_nightsOf.cls = RX0 ∧ yX0_nightsOf.cls ≠ "java/lang/invoke/MethodHandle" ∧ yX0_nightsOf.cls ≠ "java/lang/invoke/VarHandle" ∧ (parseMethodDescriptor yX0_nightsOf.desc).map (fun d => d.parameters.length) = some 1 := by decide +kernel
set_option maxHeartbeats 4000000 in
set_option maxRecDepth 100000 in
theorem c_X0_nightsOf (l : Launch) (D : va_G) (cI cS : ClassId) (h p1 p2 p3 p4 : Nat) (al wo fi ni : Nat → Int32) (pa se : Int32)  : PMi l yX0_nightsOf wsX0_nightsOf { frames := 1, cells := 0, slots := 0, locals := 21 } D cI cS (wPl cI h p1 p2 p3 p4 al wo fi ni pa) [.ref h, .int se] (fX0_nightsOf ni se) := by
  refine kEnter (cc := cX0_nightsOf) (maxL := 2) (ret := (some .int)) (by decide) rfl (Nat.le_of_ble_eq_true rfl) ?_
  intro p e s m below meth c ls Qf hQ hx hb hml hr hlocks hown hts hK hP hl
  have hown : s.vm.findClass RX0 = some m.cls := hown
  have hl : lv_has ls 2 [(0, .ref h), (1, .int se)] := hl
  refine lv_aload_n hx hb dX0_nightsOf_0 rfl (lv_at hl 0 rfl) ?_
  refine va_get (D := D) (ci := 0) (v := .ref p4) (C := RX0) (T := TX0) (N := 5) hx hb hts (fun _ h => List.mem_cons_of_mem _ (List.mem_append_right _ h)) hown hK.1 hP 0 rfl rfl 3 (by decide) (hts (.fieldLink RX0 23 "LieNights$Plan" "nights" "[I") (List.mem_of_getElem? (i := 1) rfl)) (fun _ h9 => h9) rfl dX0_nightsOf_1 ?_
  refine lv_iload_n hx hb dX0_nightsOf_4 rfl (lv_at hl 1 rfl) ?_
  refine kPi (va_runSN (As := [.ref p4, .int se]) (rest := []) ⟨hx, hb, hml, hown, hts⟩ (c_X3_at l D cI cS p4 64 ni se (by decide)) ⟨va_cnB 2 hts gX0_nightsOf_X3_at_n26 rfl rfl rfl (hK.2.at 10 (q := (RX0, 26, yX3_at, "LieNights")) rfl) (hts _ (List.mem_of_getElem? (i := 3) rfl)) q_X3_at.2 ⟨Nat.le_of_ble_eq_true rfl, Nat.le_of_ble_eq_true rfl⟩, hts _ (List.mem_of_getElem? (i := 2) rfl), trivial⟩ (kPS hK hP [4] rfl [.ref p4, .int se]) rfl rfl hl.1 rfl (lv_room (Nat.le_of_ble_eq_true rfl)) dX0_nightsOf_5 ⟨Nat.zero_le _, Nat.zero_le _⟩) ?_
  have hR1 : (fX0_nightsOf ni se) = (fX3_at 64 ni se) := rfl
  rw [hQ]
  exact W.iret (v := (fX3_at 64 ni se)) hx hb hr (fun t ht hW => ⟨_, rfl, hR1.symm, ht⟩) (fun q h => by cases h) dX0_nightsOf_8

def fJ6_bitCount_0f7a4 (x : Int32) : Int32 := ((((((((x - (((x.toUInt32 >>> (Int32.toUInt32 1 &&& Int32.toUInt32 31)).toInt32) &&& (1431655765))) &&& (858993459)) + ((((x - (((x.toUInt32 >>> (Int32.toUInt32 1 &&& Int32.toUInt32 31)).toInt32) &&& (1431655765))).toUInt32 >>> (Int32.toUInt32 2 &&& Int32.toUInt32 31)).toInt32) &&& (858993459))) + (((((x - (((x.toUInt32 >>> (Int32.toUInt32 1 &&& Int32.toUInt32 31)).toInt32) &&& (1431655765))) &&& (858993459)) + ((((x - (((x.toUInt32 >>> (Int32.toUInt32 1 &&& Int32.toUInt32 31)).toInt32) &&& (1431655765))).toUInt32 >>> (Int32.toUInt32 2 &&& Int32.toUInt32 31)).toInt32) &&& (858993459))).toUInt32 >>> (Int32.toUInt32 4 &&& Int32.toUInt32 31)).toInt32)) &&& (252645135)) + (((((((x - (((x.toUInt32 >>> (Int32.toUInt32 1 &&& Int32.toUInt32 31)).toInt32) &&& (1431655765))) &&& (858993459)) + ((((x - (((x.toUInt32 >>> (Int32.toUInt32 1 &&& Int32.toUInt32 31)).toInt32) &&& (1431655765))).toUInt32 >>> (Int32.toUInt32 2 &&& Int32.toUInt32 31)).toInt32) &&& (858993459))) + (((((x - (((x.toUInt32 >>> (Int32.toUInt32 1 &&& Int32.toUInt32 31)).toInt32) &&& (1431655765))) &&& (858993459)) + ((((x - (((x.toUInt32 >>> (Int32.toUInt32 1 &&& Int32.toUInt32 31)).toInt32) &&& (1431655765))).toUInt32 >>> (Int32.toUInt32 2 &&& Int32.toUInt32 31)).toInt32) &&& (858993459))).toUInt32 >>> (Int32.toUInt32 4 &&& Int32.toUInt32 31)).toInt32)) &&& (252645135)).toUInt32 >>> (Int32.toUInt32 8 &&& Int32.toUInt32 31)).toInt32)) + ((((((((x - (((x.toUInt32 >>> (Int32.toUInt32 1 &&& Int32.toUInt32 31)).toInt32) &&& (1431655765))) &&& (858993459)) + ((((x - (((x.toUInt32 >>> (Int32.toUInt32 1 &&& Int32.toUInt32 31)).toInt32) &&& (1431655765))).toUInt32 >>> (Int32.toUInt32 2 &&& Int32.toUInt32 31)).toInt32) &&& (858993459))) + (((((x - (((x.toUInt32 >>> (Int32.toUInt32 1 &&& Int32.toUInt32 31)).toInt32) &&& (1431655765))) &&& (858993459)) + ((((x - (((x.toUInt32 >>> (Int32.toUInt32 1 &&& Int32.toUInt32 31)).toInt32) &&& (1431655765))).toUInt32 >>> (Int32.toUInt32 2 &&& Int32.toUInt32 31)).toInt32) &&& (858993459))).toUInt32 >>> (Int32.toUInt32 4 &&& Int32.toUInt32 31)).toInt32)) &&& (252645135)) + (((((((x - (((x.toUInt32 >>> (Int32.toUInt32 1 &&& Int32.toUInt32 31)).toInt32) &&& (1431655765))) &&& (858993459)) + ((((x - (((x.toUInt32 >>> (Int32.toUInt32 1 &&& Int32.toUInt32 31)).toInt32) &&& (1431655765))).toUInt32 >>> (Int32.toUInt32 2 &&& Int32.toUInt32 31)).toInt32) &&& (858993459))) + (((((x - (((x.toUInt32 >>> (Int32.toUInt32 1 &&& Int32.toUInt32 31)).toInt32) &&& (1431655765))) &&& (858993459)) + ((((x - (((x.toUInt32 >>> (Int32.toUInt32 1 &&& Int32.toUInt32 31)).toInt32) &&& (1431655765))).toUInt32 >>> (Int32.toUInt32 2 &&& Int32.toUInt32 31)).toInt32) &&& (858993459))).toUInt32 >>> (Int32.toUInt32 4 &&& Int32.toUInt32 31)).toInt32)) &&& (252645135)).toUInt32 >>> (Int32.toUInt32 8 &&& Int32.toUInt32 31)).toInt32)).toUInt32 >>> (Int32.toUInt32 16 &&& Int32.toUInt32 31)).toInt32)) &&& 63)
theorem q_J6_bitCount_0f7a4 : yJ6_bitCount_0f7a4.cls = RJ6 ∧ yJ6_bitCount_0f7a4.cls ≠ "java/lang/invoke/MethodHandle" ∧ yJ6_bitCount_0f7a4.cls ≠ "java/lang/invoke/VarHandle" ∧ (parseMethodDescriptor yJ6_bitCount_0f7a4.desc).map (fun d => d.parameters.length) = some 1 := by decide +kernel
set_option maxHeartbeats 4000000 in
set_option maxRecDepth 100000 in
theorem c_J6_bitCount_0f7a4 (l : Launch) (D : va_G) (cI cS : ClassId) (x : Int32)  : PMi l yJ6_bitCount_0f7a4 wsJ6_bitCount_0f7a4 { frames := 0, cells := 0, slots := 0, locals := 0 } D cI cS [] [.int x] (fJ6_bitCount_0f7a4 x) := by
  refine kEnter (cc := cJ6_bitCount_0f7a4) (maxL := 1) (ret := (some .int)) (by decide) rfl (Nat.le_of_ble_eq_true rfl) ?_
  intro p e s m below meth c ls Qf hQ hx hb hml hr hlocks hown hts hK hP hl
  have hown : s.vm.findClass RJ6 = some m.cls := hown
  have hl : lv_has ls 1 [(0, .int x)] := hl
  refine lv_iload_n hx hb dJ6_bitCount_0f7a4_0 rfl (lv_at hl 0 rfl) ?_
  refine lv_iload_n hx hb dJ6_bitCount_0f7a4_1 rfl (lv_at hl 0 rfl) ?_
  refine lv_iconst (v := 1) hx hb dJ6_bitCount_0f7a4_2 (by decide) ?_
  refine lv_iushr (v := (x.toUInt32 >>> (Int32.toUInt32 1 &&& Int32.toUInt32 31)).toInt32) hx hb dJ6_bitCount_0f7a4_3 rfl ?_
  refine lv_ldcw hx hb hown (hts (.constant RJ6 265 (1431655765)) (List.mem_of_getElem? (i := 1) rfl)) dJ6_bitCount_0f7a4_4 ?_
  refine lv_iand hx hb dJ6_bitCount_0f7a4_7 ?_
  refine lv_isub hx hb dJ6_bitCount_0f7a4_8 ?_
  refine lv_istore_n (lv' := [(0, .int (x - (((x.toUInt32 >>> (Int32.toUInt32 1 &&& Int32.toUInt32 31)).toInt32) &&& (1431655765))))]) hx hb dJ6_bitCount_0f7a4_9 rfl hl (by decide) rfl (fun ls hl => ?_)
  refine lv_iload_n hx hb dJ6_bitCount_0f7a4_10 rfl (lv_at hl 0 rfl) ?_
  refine lv_ldcw hx hb hown (hts (.constant RJ6 266 (858993459)) (List.mem_of_getElem? (i := 2) rfl)) dJ6_bitCount_0f7a4_11 ?_
  refine lv_iand hx hb dJ6_bitCount_0f7a4_14 ?_
  refine lv_iload_n hx hb dJ6_bitCount_0f7a4_15 rfl (lv_at hl 0 rfl) ?_
  refine lv_iconst (v := 2) hx hb dJ6_bitCount_0f7a4_16 (by decide) ?_
  refine lv_iushr (v := ((x - (((x.toUInt32 >>> (Int32.toUInt32 1 &&& Int32.toUInt32 31)).toInt32) &&& (1431655765))).toUInt32 >>> (Int32.toUInt32 2 &&& Int32.toUInt32 31)).toInt32) hx hb dJ6_bitCount_0f7a4_17 rfl ?_
  refine lv_ldcw hx hb hown (hts (.constant RJ6 266 (858993459)) (List.mem_of_getElem? (i := 2) rfl)) dJ6_bitCount_0f7a4_18 ?_
  refine lv_iand hx hb dJ6_bitCount_0f7a4_21 ?_
  refine lv_iadd hx hb dJ6_bitCount_0f7a4_22 ?_
  refine lv_istore_n (lv' := [(0, .int (((x - (((x.toUInt32 >>> (Int32.toUInt32 1 &&& Int32.toUInt32 31)).toInt32) &&& (1431655765))) &&& (858993459)) + ((((x - (((x.toUInt32 >>> (Int32.toUInt32 1 &&& Int32.toUInt32 31)).toInt32) &&& (1431655765))).toUInt32 >>> (Int32.toUInt32 2 &&& Int32.toUInt32 31)).toInt32) &&& (858993459))))]) hx hb dJ6_bitCount_0f7a4_23 rfl hl (by decide) rfl (fun ls hl => ?_)
  refine lv_iload_n hx hb dJ6_bitCount_0f7a4_24 rfl (lv_at hl 0 rfl) ?_
  refine lv_iload_n hx hb dJ6_bitCount_0f7a4_25 rfl (lv_at hl 0 rfl) ?_
  refine lv_iconst (v := 4) hx hb dJ6_bitCount_0f7a4_26 (by decide) ?_
  refine lv_iushr (v := ((((x - (((x.toUInt32 >>> (Int32.toUInt32 1 &&& Int32.toUInt32 31)).toInt32) &&& (1431655765))) &&& (858993459)) + ((((x - (((x.toUInt32 >>> (Int32.toUInt32 1 &&& Int32.toUInt32 31)).toInt32) &&& (1431655765))).toUInt32 >>> (Int32.toUInt32 2 &&& Int32.toUInt32 31)).toInt32) &&& (858993459))).toUInt32 >>> (Int32.toUInt32 4 &&& Int32.toUInt32 31)).toInt32) hx hb dJ6_bitCount_0f7a4_27 rfl ?_
  refine lv_iadd hx hb dJ6_bitCount_0f7a4_28 ?_
  refine lv_ldcw hx hb hown (hts (.constant RJ6 267 (252645135)) (List.mem_of_getElem? (i := 3) rfl)) dJ6_bitCount_0f7a4_29 ?_
  refine lv_iand hx hb dJ6_bitCount_0f7a4_32 ?_
  refine lv_istore_n (lv' := [(0, .int (((((x - (((x.toUInt32 >>> (Int32.toUInt32 1 &&& Int32.toUInt32 31)).toInt32) &&& (1431655765))) &&& (858993459)) + ((((x - (((x.toUInt32 >>> (Int32.toUInt32 1 &&& Int32.toUInt32 31)).toInt32) &&& (1431655765))).toUInt32 >>> (Int32.toUInt32 2 &&& Int32.toUInt32 31)).toInt32) &&& (858993459))) + (((((x - (((x.toUInt32 >>> (Int32.toUInt32 1 &&& Int32.toUInt32 31)).toInt32) &&& (1431655765))) &&& (858993459)) + ((((x - (((x.toUInt32 >>> (Int32.toUInt32 1 &&& Int32.toUInt32 31)).toInt32) &&& (1431655765))).toUInt32 >>> (Int32.toUInt32 2 &&& Int32.toUInt32 31)).toInt32) &&& (858993459))).toUInt32 >>> (Int32.toUInt32 4 &&& Int32.toUInt32 31)).toInt32)) &&& (252645135)))]) hx hb dJ6_bitCount_0f7a4_33 rfl hl (by decide) rfl (fun ls hl => ?_)
  refine lv_iload_n hx hb dJ6_bitCount_0f7a4_34 rfl (lv_at hl 0 rfl) ?_
  refine lv_iload_n hx hb dJ6_bitCount_0f7a4_35 rfl (lv_at hl 0 rfl) ?_
  refine lv_bipush (v := 8) hx hb dJ6_bitCount_0f7a4_36 (by decide) ?_
  refine lv_iushr (v := ((((((x - (((x.toUInt32 >>> (Int32.toUInt32 1 &&& Int32.toUInt32 31)).toInt32) &&& (1431655765))) &&& (858993459)) + ((((x - (((x.toUInt32 >>> (Int32.toUInt32 1 &&& Int32.toUInt32 31)).toInt32) &&& (1431655765))).toUInt32 >>> (Int32.toUInt32 2 &&& Int32.toUInt32 31)).toInt32) &&& (858993459))) + (((((x - (((x.toUInt32 >>> (Int32.toUInt32 1 &&& Int32.toUInt32 31)).toInt32) &&& (1431655765))) &&& (858993459)) + ((((x - (((x.toUInt32 >>> (Int32.toUInt32 1 &&& Int32.toUInt32 31)).toInt32) &&& (1431655765))).toUInt32 >>> (Int32.toUInt32 2 &&& Int32.toUInt32 31)).toInt32) &&& (858993459))).toUInt32 >>> (Int32.toUInt32 4 &&& Int32.toUInt32 31)).toInt32)) &&& (252645135)).toUInt32 >>> (Int32.toUInt32 8 &&& Int32.toUInt32 31)).toInt32) hx hb dJ6_bitCount_0f7a4_38 rfl ?_
  refine lv_iadd hx hb dJ6_bitCount_0f7a4_39 ?_
  refine lv_istore_n (lv' := [(0, .int ((((((x - (((x.toUInt32 >>> (Int32.toUInt32 1 &&& Int32.toUInt32 31)).toInt32) &&& (1431655765))) &&& (858993459)) + ((((x - (((x.toUInt32 >>> (Int32.toUInt32 1 &&& Int32.toUInt32 31)).toInt32) &&& (1431655765))).toUInt32 >>> (Int32.toUInt32 2 &&& Int32.toUInt32 31)).toInt32) &&& (858993459))) + (((((x - (((x.toUInt32 >>> (Int32.toUInt32 1 &&& Int32.toUInt32 31)).toInt32) &&& (1431655765))) &&& (858993459)) + ((((x - (((x.toUInt32 >>> (Int32.toUInt32 1 &&& Int32.toUInt32 31)).toInt32) &&& (1431655765))).toUInt32 >>> (Int32.toUInt32 2 &&& Int32.toUInt32 31)).toInt32) &&& (858993459))).toUInt32 >>> (Int32.toUInt32 4 &&& Int32.toUInt32 31)).toInt32)) &&& (252645135)) + (((((((x - (((x.toUInt32 >>> (Int32.toUInt32 1 &&& Int32.toUInt32 31)).toInt32) &&& (1431655765))) &&& (858993459)) + ((((x - (((x.toUInt32 >>> (Int32.toUInt32 1 &&& Int32.toUInt32 31)).toInt32) &&& (1431655765))).toUInt32 >>> (Int32.toUInt32 2 &&& Int32.toUInt32 31)).toInt32) &&& (858993459))) + (((((x - (((x.toUInt32 >>> (Int32.toUInt32 1 &&& Int32.toUInt32 31)).toInt32) &&& (1431655765))) &&& (858993459)) + ((((x - (((x.toUInt32 >>> (Int32.toUInt32 1 &&& Int32.toUInt32 31)).toInt32) &&& (1431655765))).toUInt32 >>> (Int32.toUInt32 2 &&& Int32.toUInt32 31)).toInt32) &&& (858993459))).toUInt32 >>> (Int32.toUInt32 4 &&& Int32.toUInt32 31)).toInt32)) &&& (252645135)).toUInt32 >>> (Int32.toUInt32 8 &&& Int32.toUInt32 31)).toInt32)))]) hx hb dJ6_bitCount_0f7a4_40 rfl hl (by decide) rfl (fun ls hl => ?_)
  refine lv_iload_n hx hb dJ6_bitCount_0f7a4_41 rfl (lv_at hl 0 rfl) ?_
  refine lv_iload_n hx hb dJ6_bitCount_0f7a4_42 rfl (lv_at hl 0 rfl) ?_
  refine lv_bipush (v := 16) hx hb dJ6_bitCount_0f7a4_43 (by decide) ?_
  refine lv_iushr (v := (((((((x - (((x.toUInt32 >>> (Int32.toUInt32 1 &&& Int32.toUInt32 31)).toInt32) &&& (1431655765))) &&& (858993459)) + ((((x - (((x.toUInt32 >>> (Int32.toUInt32 1 &&& Int32.toUInt32 31)).toInt32) &&& (1431655765))).toUInt32 >>> (Int32.toUInt32 2 &&& Int32.toUInt32 31)).toInt32) &&& (858993459))) + (((((x - (((x.toUInt32 >>> (Int32.toUInt32 1 &&& Int32.toUInt32 31)).toInt32) &&& (1431655765))) &&& (858993459)) + ((((x - (((x.toUInt32 >>> (Int32.toUInt32 1 &&& Int32.toUInt32 31)).toInt32) &&& (1431655765))).toUInt32 >>> (Int32.toUInt32 2 &&& Int32.toUInt32 31)).toInt32) &&& (858993459))).toUInt32 >>> (Int32.toUInt32 4 &&& Int32.toUInt32 31)).toInt32)) &&& (252645135)) + (((((((x - (((x.toUInt32 >>> (Int32.toUInt32 1 &&& Int32.toUInt32 31)).toInt32) &&& (1431655765))) &&& (858993459)) + ((((x - (((x.toUInt32 >>> (Int32.toUInt32 1 &&& Int32.toUInt32 31)).toInt32) &&& (1431655765))).toUInt32 >>> (Int32.toUInt32 2 &&& Int32.toUInt32 31)).toInt32) &&& (858993459))) + (((((x - (((x.toUInt32 >>> (Int32.toUInt32 1 &&& Int32.toUInt32 31)).toInt32) &&& (1431655765))) &&& (858993459)) + ((((x - (((x.toUInt32 >>> (Int32.toUInt32 1 &&& Int32.toUInt32 31)).toInt32) &&& (1431655765))).toUInt32 >>> (Int32.toUInt32 2 &&& Int32.toUInt32 31)).toInt32) &&& (858993459))).toUInt32 >>> (Int32.toUInt32 4 &&& Int32.toUInt32 31)).toInt32)) &&& (252645135)).toUInt32 >>> (Int32.toUInt32 8 &&& Int32.toUInt32 31)).toInt32)).toUInt32 >>> (Int32.toUInt32 16 &&& Int32.toUInt32 31)).toInt32) hx hb dJ6_bitCount_0f7a4_45 rfl ?_
  refine lv_iadd hx hb dJ6_bitCount_0f7a4_46 ?_
  refine lv_istore_n (lv' := [(0, .int (((((((x - (((x.toUInt32 >>> (Int32.toUInt32 1 &&& Int32.toUInt32 31)).toInt32) &&& (1431655765))) &&& (858993459)) + ((((x - (((x.toUInt32 >>> (Int32.toUInt32 1 &&& Int32.toUInt32 31)).toInt32) &&& (1431655765))).toUInt32 >>> (Int32.toUInt32 2 &&& Int32.toUInt32 31)).toInt32) &&& (858993459))) + (((((x - (((x.toUInt32 >>> (Int32.toUInt32 1 &&& Int32.toUInt32 31)).toInt32) &&& (1431655765))) &&& (858993459)) + ((((x - (((x.toUInt32 >>> (Int32.toUInt32 1 &&& Int32.toUInt32 31)).toInt32) &&& (1431655765))).toUInt32 >>> (Int32.toUInt32 2 &&& Int32.toUInt32 31)).toInt32) &&& (858993459))).toUInt32 >>> (Int32.toUInt32 4 &&& Int32.toUInt32 31)).toInt32)) &&& (252645135)) + (((((((x - (((x.toUInt32 >>> (Int32.toUInt32 1 &&& Int32.toUInt32 31)).toInt32) &&& (1431655765))) &&& (858993459)) + ((((x - (((x.toUInt32 >>> (Int32.toUInt32 1 &&& Int32.toUInt32 31)).toInt32) &&& (1431655765))).toUInt32 >>> (Int32.toUInt32 2 &&& Int32.toUInt32 31)).toInt32) &&& (858993459))) + (((((x - (((x.toUInt32 >>> (Int32.toUInt32 1 &&& Int32.toUInt32 31)).toInt32) &&& (1431655765))) &&& (858993459)) + ((((x - (((x.toUInt32 >>> (Int32.toUInt32 1 &&& Int32.toUInt32 31)).toInt32) &&& (1431655765))).toUInt32 >>> (Int32.toUInt32 2 &&& Int32.toUInt32 31)).toInt32) &&& (858993459))).toUInt32 >>> (Int32.toUInt32 4 &&& Int32.toUInt32 31)).toInt32)) &&& (252645135)).toUInt32 >>> (Int32.toUInt32 8 &&& Int32.toUInt32 31)).toInt32)) + ((((((((x - (((x.toUInt32 >>> (Int32.toUInt32 1 &&& Int32.toUInt32 31)).toInt32) &&& (1431655765))) &&& (858993459)) + ((((x - (((x.toUInt32 >>> (Int32.toUInt32 1 &&& Int32.toUInt32 31)).toInt32) &&& (1431655765))).toUInt32 >>> (Int32.toUInt32 2 &&& Int32.toUInt32 31)).toInt32) &&& (858993459))) + (((((x - (((x.toUInt32 >>> (Int32.toUInt32 1 &&& Int32.toUInt32 31)).toInt32) &&& (1431655765))) &&& (858993459)) + ((((x - (((x.toUInt32 >>> (Int32.toUInt32 1 &&& Int32.toUInt32 31)).toInt32) &&& (1431655765))).toUInt32 >>> (Int32.toUInt32 2 &&& Int32.toUInt32 31)).toInt32) &&& (858993459))).toUInt32 >>> (Int32.toUInt32 4 &&& Int32.toUInt32 31)).toInt32)) &&& (252645135)) + (((((((x - (((x.toUInt32 >>> (Int32.toUInt32 1 &&& Int32.toUInt32 31)).toInt32) &&& (1431655765))) &&& (858993459)) + ((((x - (((x.toUInt32 >>> (Int32.toUInt32 1 &&& Int32.toUInt32 31)).toInt32) &&& (1431655765))).toUInt32 >>> (Int32.toUInt32 2 &&& Int32.toUInt32 31)).toInt32) &&& (858993459))) + (((((x - (((x.toUInt32 >>> (Int32.toUInt32 1 &&& Int32.toUInt32 31)).toInt32) &&& (1431655765))) &&& (858993459)) + ((((x - (((x.toUInt32 >>> (Int32.toUInt32 1 &&& Int32.toUInt32 31)).toInt32) &&& (1431655765))).toUInt32 >>> (Int32.toUInt32 2 &&& Int32.toUInt32 31)).toInt32) &&& (858993459))).toUInt32 >>> (Int32.toUInt32 4 &&& Int32.toUInt32 31)).toInt32)) &&& (252645135)).toUInt32 >>> (Int32.toUInt32 8 &&& Int32.toUInt32 31)).toInt32)).toUInt32 >>> (Int32.toUInt32 16 &&& Int32.toUInt32 31)).toInt32)))]) hx hb dJ6_bitCount_0f7a4_47 rfl hl (by decide) rfl (fun ls hl => ?_)
  refine lv_iload_n hx hb dJ6_bitCount_0f7a4_48 rfl (lv_at hl 0 rfl) ?_
  refine lv_bipush (v := 63) hx hb dJ6_bitCount_0f7a4_49 (by decide) ?_
  refine lv_iand hx hb dJ6_bitCount_0f7a4_51 ?_
  have hR1 : (fJ6_bitCount_0f7a4 x) = ((((((((x - (((x.toUInt32 >>> (Int32.toUInt32 1 &&& Int32.toUInt32 31)).toInt32) &&& (1431655765))) &&& (858993459)) + ((((x - (((x.toUInt32 >>> (Int32.toUInt32 1 &&& Int32.toUInt32 31)).toInt32) &&& (1431655765))).toUInt32 >>> (Int32.toUInt32 2 &&& Int32.toUInt32 31)).toInt32) &&& (858993459))) + (((((x - (((x.toUInt32 >>> (Int32.toUInt32 1 &&& Int32.toUInt32 31)).toInt32) &&& (1431655765))) &&& (858993459)) + ((((x - (((x.toUInt32 >>> (Int32.toUInt32 1 &&& Int32.toUInt32 31)).toInt32) &&& (1431655765))).toUInt32 >>> (Int32.toUInt32 2 &&& Int32.toUInt32 31)).toInt32) &&& (858993459))).toUInt32 >>> (Int32.toUInt32 4 &&& Int32.toUInt32 31)).toInt32)) &&& (252645135)) + (((((((x - (((x.toUInt32 >>> (Int32.toUInt32 1 &&& Int32.toUInt32 31)).toInt32) &&& (1431655765))) &&& (858993459)) + ((((x - (((x.toUInt32 >>> (Int32.toUInt32 1 &&& Int32.toUInt32 31)).toInt32) &&& (1431655765))).toUInt32 >>> (Int32.toUInt32 2 &&& Int32.toUInt32 31)).toInt32) &&& (858993459))) + (((((x - (((x.toUInt32 >>> (Int32.toUInt32 1 &&& Int32.toUInt32 31)).toInt32) &&& (1431655765))) &&& (858993459)) + ((((x - (((x.toUInt32 >>> (Int32.toUInt32 1 &&& Int32.toUInt32 31)).toInt32) &&& (1431655765))).toUInt32 >>> (Int32.toUInt32 2 &&& Int32.toUInt32 31)).toInt32) &&& (858993459))).toUInt32 >>> (Int32.toUInt32 4 &&& Int32.toUInt32 31)).toInt32)) &&& (252645135)).toUInt32 >>> (Int32.toUInt32 8 &&& Int32.toUInt32 31)).toInt32)) + ((((((((x - (((x.toUInt32 >>> (Int32.toUInt32 1 &&& Int32.toUInt32 31)).toInt32) &&& (1431655765))) &&& (858993459)) + ((((x - (((x.toUInt32 >>> (Int32.toUInt32 1 &&& Int32.toUInt32 31)).toInt32) &&& (1431655765))).toUInt32 >>> (Int32.toUInt32 2 &&& Int32.toUInt32 31)).toInt32) &&& (858993459))) + (((((x - (((x.toUInt32 >>> (Int32.toUInt32 1 &&& Int32.toUInt32 31)).toInt32) &&& (1431655765))) &&& (858993459)) + ((((x - (((x.toUInt32 >>> (Int32.toUInt32 1 &&& Int32.toUInt32 31)).toInt32) &&& (1431655765))).toUInt32 >>> (Int32.toUInt32 2 &&& Int32.toUInt32 31)).toInt32) &&& (858993459))).toUInt32 >>> (Int32.toUInt32 4 &&& Int32.toUInt32 31)).toInt32)) &&& (252645135)) + (((((((x - (((x.toUInt32 >>> (Int32.toUInt32 1 &&& Int32.toUInt32 31)).toInt32) &&& (1431655765))) &&& (858993459)) + ((((x - (((x.toUInt32 >>> (Int32.toUInt32 1 &&& Int32.toUInt32 31)).toInt32) &&& (1431655765))).toUInt32 >>> (Int32.toUInt32 2 &&& Int32.toUInt32 31)).toInt32) &&& (858993459))) + (((((x - (((x.toUInt32 >>> (Int32.toUInt32 1 &&& Int32.toUInt32 31)).toInt32) &&& (1431655765))) &&& (858993459)) + ((((x - (((x.toUInt32 >>> (Int32.toUInt32 1 &&& Int32.toUInt32 31)).toInt32) &&& (1431655765))).toUInt32 >>> (Int32.toUInt32 2 &&& Int32.toUInt32 31)).toInt32) &&& (858993459))).toUInt32 >>> (Int32.toUInt32 4 &&& Int32.toUInt32 31)).toInt32)) &&& (252645135)).toUInt32 >>> (Int32.toUInt32 8 &&& Int32.toUInt32 31)).toInt32)).toUInt32 >>> (Int32.toUInt32 16 &&& Int32.toUInt32 31)).toInt32)) &&& 63) := rfl
  rw [hQ]
  exact W.iret (v := ((((((((x - (((x.toUInt32 >>> (Int32.toUInt32 1 &&& Int32.toUInt32 31)).toInt32) &&& (1431655765))) &&& (858993459)) + ((((x - (((x.toUInt32 >>> (Int32.toUInt32 1 &&& Int32.toUInt32 31)).toInt32) &&& (1431655765))).toUInt32 >>> (Int32.toUInt32 2 &&& Int32.toUInt32 31)).toInt32) &&& (858993459))) + (((((x - (((x.toUInt32 >>> (Int32.toUInt32 1 &&& Int32.toUInt32 31)).toInt32) &&& (1431655765))) &&& (858993459)) + ((((x - (((x.toUInt32 >>> (Int32.toUInt32 1 &&& Int32.toUInt32 31)).toInt32) &&& (1431655765))).toUInt32 >>> (Int32.toUInt32 2 &&& Int32.toUInt32 31)).toInt32) &&& (858993459))).toUInt32 >>> (Int32.toUInt32 4 &&& Int32.toUInt32 31)).toInt32)) &&& (252645135)) + (((((((x - (((x.toUInt32 >>> (Int32.toUInt32 1 &&& Int32.toUInt32 31)).toInt32) &&& (1431655765))) &&& (858993459)) + ((((x - (((x.toUInt32 >>> (Int32.toUInt32 1 &&& Int32.toUInt32 31)).toInt32) &&& (1431655765))).toUInt32 >>> (Int32.toUInt32 2 &&& Int32.toUInt32 31)).toInt32) &&& (858993459))) + (((((x - (((x.toUInt32 >>> (Int32.toUInt32 1 &&& Int32.toUInt32 31)).toInt32) &&& (1431655765))) &&& (858993459)) + ((((x - (((x.toUInt32 >>> (Int32.toUInt32 1 &&& Int32.toUInt32 31)).toInt32) &&& (1431655765))).toUInt32 >>> (Int32.toUInt32 2 &&& Int32.toUInt32 31)).toInt32) &&& (858993459))).toUInt32 >>> (Int32.toUInt32 4 &&& Int32.toUInt32 31)).toInt32)) &&& (252645135)).toUInt32 >>> (Int32.toUInt32 8 &&& Int32.toUInt32 31)).toInt32)) + ((((((((x - (((x.toUInt32 >>> (Int32.toUInt32 1 &&& Int32.toUInt32 31)).toInt32) &&& (1431655765))) &&& (858993459)) + ((((x - (((x.toUInt32 >>> (Int32.toUInt32 1 &&& Int32.toUInt32 31)).toInt32) &&& (1431655765))).toUInt32 >>> (Int32.toUInt32 2 &&& Int32.toUInt32 31)).toInt32) &&& (858993459))) + (((((x - (((x.toUInt32 >>> (Int32.toUInt32 1 &&& Int32.toUInt32 31)).toInt32) &&& (1431655765))) &&& (858993459)) + ((((x - (((x.toUInt32 >>> (Int32.toUInt32 1 &&& Int32.toUInt32 31)).toInt32) &&& (1431655765))).toUInt32 >>> (Int32.toUInt32 2 &&& Int32.toUInt32 31)).toInt32) &&& (858993459))).toUInt32 >>> (Int32.toUInt32 4 &&& Int32.toUInt32 31)).toInt32)) &&& (252645135)) + (((((((x - (((x.toUInt32 >>> (Int32.toUInt32 1 &&& Int32.toUInt32 31)).toInt32) &&& (1431655765))) &&& (858993459)) + ((((x - (((x.toUInt32 >>> (Int32.toUInt32 1 &&& Int32.toUInt32 31)).toInt32) &&& (1431655765))).toUInt32 >>> (Int32.toUInt32 2 &&& Int32.toUInt32 31)).toInt32) &&& (858993459))) + (((((x - (((x.toUInt32 >>> (Int32.toUInt32 1 &&& Int32.toUInt32 31)).toInt32) &&& (1431655765))) &&& (858993459)) + ((((x - (((x.toUInt32 >>> (Int32.toUInt32 1 &&& Int32.toUInt32 31)).toInt32) &&& (1431655765))).toUInt32 >>> (Int32.toUInt32 2 &&& Int32.toUInt32 31)).toInt32) &&& (858993459))).toUInt32 >>> (Int32.toUInt32 4 &&& Int32.toUInt32 31)).toInt32)) &&& (252645135)).toUInt32 >>> (Int32.toUInt32 8 &&& Int32.toUInt32 31)).toInt32)).toUInt32 >>> (Int32.toUInt32 16 &&& Int32.toUInt32 31)).toInt32)) &&& 63)) hx hb hr (fun t ht hW => ⟨_, rfl, hR1.symm, ht⟩) (fun q h => by cases h) dJ6_bitCount_0f7a4_52

def aX0_tryAsking_20 (wo fi ni : Nat → Int32) (se x v3_20 v4_20 v5_20 : Int32) : (Nat → Int32) × (Nat → Int32) × (Nat → Int32) := (if ((fX0_worstOf wo se) : Int32) ≤ (v3_20 + 1) then (wo, fi, (fX3_write 64 ni se (if v4_20 < (fX0_nightsOf ni se) then v4_20 else (fX0_nightsOf ni se)))) else ((fX3_write 64 wo se (v3_20 + 1)), (fX3_write 64 fi se x), (fX3_write 64 ni se (if v4_20 < (fX0_nightsOf ni se) then v4_20 else (fX0_nightsOf ni se)))))
def sX0_tryAsking_20 (al wo fi ni : Nat → Int32) (se x : Int32) (k20 : Nat) (v3_20 v4_20 v5_20 : Int32) : (Int32 × Int32 × Int32) ⊕ (Nat → Int32) × (Nat → Int32) × (Nat → Int32) := (if (fX3_has v5_20 (nI k20)) = 0 then (.inl (v3_20, v4_20, v5_20)) else (if (v5_20 &&& (fX3_at 36 al ((x * 6) + (nI k20)))) = se then (.inr (wo, fi, ni)) else (.inl ((if v3_20 < (fX0_worstOf wo (v5_20 &&& (fX3_at 36 al ((x * 6) + (nI k20))))) then (fX0_worstOf wo (v5_20 &&& (fX3_at 36 al ((x * 6) + (nI k20))))) else v3_20), (v4_20 + (fX0_nightsOf ni (v5_20 &&& (fX3_at 36 al ((x * 6) + (nI k20)))))), (v5_20 &&& ((v5_20 &&& (fX3_at 36 al ((x * 6) + (nI k20)))) ^^^ (-1)))))))
def fX0_tryAsking (al wo fi ni : Nat → Int32) (N : Nat) (se x : Int32) : (Nat → Int32) × (Nat → Int32) × (Nat → Int32) := (lqr (lq (fun k a => sX0_tryAsking_20 al wo fi ni se x k a.1 a.2.1 a.2.2) (0, (fJ6_bitCount_0f7a4 se), (se &&& ((1 <<< (x &&& 31)) ^^^ (-1)))) N) (fun a => aX0_tryAsking_20 wo fi ni se x a.1 a.2.1 a.2.2))
theorem q_X0_tryAsking : yX0_tryAsking.cls = RX0 ∧ yX0_tryAsking.cls ≠ "java/lang/invoke/MethodHandle" ∧ yX0_tryAsking.cls ≠ "java/lang/invoke/VarHandle" ∧ (parseMethodDescriptor yX0_tryAsking.desc).map (fun d => d.parameters.length) = some 2 := by decide +kernel
set_option maxHeartbeats 4000000 in
set_option maxRecDepth 100000 in
theorem c_X0_tryAsking (l : Launch) (D : va_G) (cI cS : ClassId) (h p1 p2 p3 p4 : Nat) (al wo fi ni : Nat → Int32) (pa : Int32) (N : Nat) (se x : Int32) (hpa : pa = nI N) (hN : N ≤ 6) : MMv l yX0_tryAsking wsX0_tryAsking { frames := 2, cells := 0, slots := 0, locals := 42 } D cI cS (wPl cI h p1 p2 p3 p4 al wo fi ni pa) [.ref h, .int se, .int x] (wPl cI h p1 p2 p3 p4 al ((fX0_tryAsking al wo fi ni N se x).1) ((fX0_tryAsking al wo fi ni N se x).2.1) ((fX0_tryAsking al wo fi ni N se x).2.2) pa) := by
  refine kEnterM (cc := cX0_tryAsking) (maxL := 8) (ret := none) (by decide) rfl (Nat.le_of_ble_eq_true rfl) ?_
  intro p e s m below meth c ls Qf hQ hx hb hml hr hlocks hown hts hK hP hD hS hl
  have hown : s.vm.findClass RX0 = some m.cls := hown
  have hl : lv_has ls 8 [(0, .ref h), (1, .int se), (2, .int x)] := hl
  generalize kA (wPl cI h p1 p2 p3 p4 al wo fi ni pa) = A at hQ hD hS
  refine lv_iconst (v := 0) hx hb dX0_tryAsking_0 (by decide) ?_
  refine lv_istore_n (lv' := [(3, .int 0), (0, .ref h), (1, .int se), (2, .int x)]) hx hb dX0_tryAsking_1 rfl hl (by decide) rfl (fun ls hl => ?_)
  refine lv_iload_n hx hb dX0_tryAsking_2 rfl (lv_at hl 2 rfl) ?_
  refine kPi (va_runS (As := [.int se]) (rest := []) ⟨hx, hb, hml, hown, hts⟩ (c_J6_bitCount_0f7a4 l D cI cS se) (va_cwS 1 hts gX0_tryAsking_J6_bitCount_0f7a4 rfl rfl rfl q_J6_bitCount_0f7a4.2 ⟨Nat.le_of_ble_eq_true rfl, Nat.le_of_ble_eq_true rfl⟩) (kPS hK hP [] rfl [.int se]) rfl rfl hl.1 rfl (lv_room (Nat.le_of_ble_eq_true rfl)) dX0_tryAsking_3 ⟨Nat.zero_le _, Nat.zero_le _⟩) ?_
  refine lv_istore (lv' := [(4, .int (fJ6_bitCount_0f7a4 se)), (3, .int 0), (0, .ref h), (1, .int se), (2, .int x)]) hx hb dX0_tryAsking_6 hl (by decide) rfl (fun ls hl => ?_)
  refine lv_iload_n hx hb dX0_tryAsking_8 rfl (lv_at hl 3 rfl) ?_
  refine lv_iconst (v := 1) hx hb dX0_tryAsking_9 (by decide) ?_
  refine lv_iload_n hx hb dX0_tryAsking_10 rfl (lv_at hl 4 rfl) ?_
  refine lv_ishl hx hb dX0_tryAsking_11 ?_
  refine lv_iconst (v := (-1)) hx hb dX0_tryAsking_12 (by decide) ?_
  refine lv_ixor hx hb dX0_tryAsking_13 ?_
  refine lv_iand hx hb dX0_tryAsking_14 ?_
  refine lv_istore (lv' := [(5, .int (se &&& ((1 <<< (x &&& 31)) ^^^ (-1)))), (4, .int (fJ6_bitCount_0f7a4 se)), (3, .int 0), (0, .ref h), (1, .int se), (2, .int x)]) hx hb dX0_tryAsking_15 hl (by decide) rfl (fun ls hl => ?_)
  refine lv_iconst (v := 0) hx hb dX0_tryAsking_17 (by decide) ?_
  refine lv_istore (lv' := [(6, .int 0), (5, .int (se &&& ((1 <<< (x &&& 31)) ^^^ (-1)))), (4, .int (fJ6_bitCount_0f7a4 se)), (3, .int 0), (0, .ref h), (1, .int se), (2, .int x)]) hx hb dX0_tryAsking_18 hl (by decide) rfl (fun ls hl => ?_)
  have hR1 : (fX0_tryAsking al wo fi ni N se x) = (lqr (lq (fun k a => sX0_tryAsking_20 al wo fi ni se x k a.1 a.2.1 a.2.2) (0, (fJ6_bitCount_0f7a4 se), (se &&& ((1 <<< (x &&& 31)) ^^^ (-1)))) N) (fun a => aX0_tryAsking_20 wo fi ni se x a.1 a.2.1 a.2.2)) := rfl
  have loop20 : ∀ (n k20 : Nat), k20 ≤ N → N + 1 ≤ k20 + n → ∀ (v3_20 : Int32) (v4_20 : Int32) (v5_20 : Int32), lq (fun k a => sX0_tryAsking_20 al wo fi ni se x k a.1 a.2.1 a.2.2) (0, (fJ6_bitCount_0f7a4 se), (se &&& ((1 <<< (x &&& 31)) ^^^ (-1)))) k20 = Sum.inl (v3_20, v4_20, v5_20) →  ∀ (H : Heap) (locs : List Loc), va_P D vwCl (wPl cI h p1 p2 p3 p4 al wo fi ni pa) H → va_D A (wPl cI h p1 p2 p3 p4 al wo fi ni pa) → va_S A s.heap H locs → ∀ (ls : Array Slot), lv_has ls 8 [(0, .ref h), (1, .int se), (2, .int x), (3, .int v3_20), (4, .int v4_20), (5, .int v5_20), (6, .int (nI k20))] → W p l e { frames := 2, cells := 0, slots := 0, locals := 42 } s m ([.ref h, .int se, .int x] : List Value).toArray below meth c H locs 0 0 Qf (F0 m 20 ls []) := by
    intro n
    induction n with
    | zero => intro k20 h1 h2; exact absurd h2 (by omega)
    | succ n ih =>
      intro k20 hk20 hn20 v3_20 v4_20 v5_20 hacc20  H locs hP hD hS ls hl
      have ih20 := ih
      refine lv_iload hx hb dX0_tryAsking_20 (lv_at hl 6 rfl) ?_
      refine lv_aload_n hx hb dX0_tryAsking_22 rfl (lv_at hl 0 rfl) ?_
      refine va_get (D := D) (ci := 0) (v := .int pa) (C := RX0) (T := TX0) (N := 5) hx hb hts (fun _ h => List.mem_cons_of_mem _ (List.mem_append_right _ h)) hown hK.1 hP 0 rfl rfl 4 (by decide) (hts (.fieldLink RX0 34 "LieNights$Plan" "answers" "I") (List.mem_of_getElem? (i := 1) rfl)) (fun _ h9 => h9) rfl dX0_tryAsking_23 ?_
      refine lv_icmp_ge (tgt := 105) hx hb dX0_tryAsking_26 (by decide) (fun c26 => ?_) (fun c26 => ?_)
      · skip
        have hkN : k20 = N := (kEnd hk20 rfl hpa (by omega) c26)
        rw [hkN] at hacc20
        have hR2 : (fX0_tryAsking al wo fi ni N se x) = aX0_tryAsking_20 wo fi ni se x v3_20 v4_20 v5_20 := hR1.trans (lq_end (x := (v3_20, v4_20, v5_20)) (g := (fun a => aX0_tryAsking_20 wo fi ni se x a.1 a.2.1 a.2.2)) hacc20)
        refine lv_iload_n hx hb dX0_tryAsking_105 rfl (lv_at hl 3 rfl) ?_
        refine lv_iconst (v := 1) hx hb dX0_tryAsking_106 (by decide) ?_
        refine lv_iadd hx hb dX0_tryAsking_107 ?_
        refine lv_aload_n hx hb dX0_tryAsking_108 rfl (lv_at hl 0 rfl) ?_
        refine lv_iload_n hx hb dX0_tryAsking_109 rfl (lv_at hl 1 rfl) ?_
        refine kPi (va_runV (As := [.int se]) (rest := [.int (v3_20 + 1)]) ⟨hx, hb, hml, hown, hts⟩ (c_X0_worstOf l D cI cS h p1 p2 p3 p4 al wo fi ni pa se) (cwV 1 hts gX0_tryAsking_X0_worstOf rfl rfl rfl q_X0_worstOf ⟨Nat.le_of_ble_eq_true rfl, Nat.le_of_ble_eq_true rfl⟩) (kPV hK hP [0, 1, 2, 3, 4] rfl (va_recv hK.1 hP (ci := 0) (q0 := 0) rfl rfl) [.int se]) rfl rfl hl.1 rfl (lv_room (Nat.le_of_ble_eq_true rfl)) dX0_tryAsking_110 ⟨Nat.zero_le _, Nat.zero_le _⟩) ?_
        refine lv_icmp_ge (tgt := 136) hx hb dX0_tryAsking_113 (by decide) (fun c113 => ?_) (fun c113 => ?_)
        · skip
          refine lv_aload_n hx hb dX0_tryAsking_136 rfl (lv_at hl 0 rfl) ?_
          refine va_get (D := D) (ci := 0) (v := .ref p4) (C := RX0) (T := TX0) (N := 5) hx hb hts (fun _ h => List.mem_cons_of_mem _ (List.mem_append_right _ h)) hown hK.1 hP 0 rfl rfl 3 (by decide) (hts (.fieldLink RX0 23 "LieNights$Plan" "nights" "[I") (List.mem_of_getElem? (i := 9) rfl)) (fun _ h9 => h9) rfl dX0_tryAsking_137 ?_
          refine lv_iload_n hx hb dX0_tryAsking_140 rfl (lv_at hl 1 rfl) ?_
          refine lv_aload_n hx hb dX0_tryAsking_141 rfl (lv_at hl 0 rfl) ?_
          refine lv_iload_n hx hb dX0_tryAsking_142 rfl (lv_at hl 1 rfl) ?_
          refine kPi (va_runV (As := [.int se]) (rest := [.int se, .ref p4]) ⟨hx, hb, hml, hown, hts⟩ (c_X0_nightsOf l D cI cS h p1 p2 p3 p4 al wo fi ni pa se) (cwV 1 hts gX0_tryAsking_X0_nightsOf rfl rfl rfl q_X0_nightsOf ⟨Nat.le_of_ble_eq_true rfl, Nat.le_of_ble_eq_true rfl⟩) (kPV hK hP [0, 1, 2, 3, 4] rfl (va_recv hK.1 hP (ci := 0) (q0 := 0) rfl rfl) [.int se]) rfl rfl hl.1 rfl (lv_room (Nat.le_of_ble_eq_true rfl)) dX0_tryAsking_143 ⟨Nat.zero_le _, Nat.zero_le _⟩) ?_
          refine lv_iload hx hb dX0_tryAsking_146 (lv_at hl 4 rfl) ?_
          refine va_mmin hx hb (hml.trans hl.1.symm) hown (hts (.methodLink RX0 72 Lib.Math.min.name) (List.mem_of_getElem? (i := 10) rfl)) (hts (.static Lib.Math.min.name) (List.mem_of_getElem? (i := 11) rfl)) (hts (.initialized "java/lang/Math") (List.mem_of_getElem? (i := 5) rfl)) (hts (.code Lib.Math.min.name Lib.Math.min.code 2 (some .int)) (List.mem_of_getElem? (i := 12) rfl)) (Nat.le_of_ble_eq_true rfl) (Nat.le_of_ble_eq_true rfl) (Nat.zero_le _) (Nat.zero_le _) dX0_tryAsking_148 ?_
          refine kMv (wl' := (wPl cI h p1 p2 p3 p4 al wo fi (fX3_write 64 ni se (if v4_20 < (fX0_nightsOf ni se) then v4_20 else (fX0_nightsOf ni se))) pa)) (wc := (wArr cI p4 64 ni)) (w1 := (wArr cI p4 64 (fX3_write 64 ni se (if v4_20 < (fX0_nightsOf ni se) then v4_20 else (fX0_nightsOf ni se))))) hP hD hS [4] rfl rfl rfl (va_runSN (As := [.ref p4, .int se, .int (if v4_20 < (fX0_nightsOf ni se) then v4_20 else (fX0_nightsOf ni se))]) (rest := []) ⟨hx, hb, hml, hown, hts⟩ (c_X3_write l D cI cS p4 64 ni se (if v4_20 < (fX0_nightsOf ni se) then v4_20 else (fX0_nightsOf ni se)) (by decide)) ⟨va_cnB 3 hts gX0_tryAsking_X3_write_n40 rfl rfl rfl (hK.2.at 8 (q := (RX0, 40, yX3_write, "LieNights")) rfl) (hts _ (List.mem_of_getElem? (i := 21) rfl)) q_X3_write.2 ⟨Nat.le_of_ble_eq_true rfl, Nat.le_of_ble_eq_true rfl⟩, hts _ (List.mem_of_getElem? (i := 34) rfl), trivial⟩ (kMS hK hP hD [4] rfl rfl [.ref p4, .int se, .int (if v4_20 < (fX0_nightsOf ni se) then v4_20 else (fX0_nightsOf ni se))]) rfl rfl hl.1 rfl (lv_room (Nat.le_of_ble_eq_true rfl)) dX0_tryAsking_151 ⟨Nat.zero_le _, Nat.zero_le _⟩) (fun H locs hP hD hS => ?_)
          have hR3 : (fX0_tryAsking al wo fi ni N se x) = (wo, fi, (fX3_write 64 ni se (if v4_20 < (fX0_nightsOf ni se) then v4_20 else (fX0_nightsOf ni se)))) := hR2.trans (by unfold aX0_tryAsking_20; rw [if_pos c113])
          rw [hQ]
          exact W.vret hx hb hr (fun t ht hW => ⟨⟨(), rfl, trivial, (by show va_P D vwCl _ t.heap; rw [hR3, ht]; exact hP)⟩, hS.F ht⟩) hS.2.2 dX0_tryAsking_154
        refine lv_aload_n hx hb dX0_tryAsking_116 rfl (lv_at hl 0 rfl) ?_
        refine va_get (D := D) (ci := 0) (v := .ref p2) (C := RX0) (T := TX0) (N := 5) hx hb hts (fun _ h => List.mem_cons_of_mem _ (List.mem_append_right _ h)) hown hK.1 hP 0 rfl rfl 1 (by decide) (hts (.fieldLink RX0 17 "LieNights$Plan" "worst" "[I") (List.mem_of_getElem? (i := 7) rfl)) (fun _ h9 => h9) rfl dX0_tryAsking_117 ?_
        refine lv_iload_n hx hb dX0_tryAsking_120 rfl (lv_at hl 1 rfl) ?_
        refine lv_iload_n hx hb dX0_tryAsking_121 rfl (lv_at hl 3 rfl) ?_
        refine lv_iconst (v := 1) hx hb dX0_tryAsking_122 (by decide) ?_
        refine lv_iadd hx hb dX0_tryAsking_123 ?_
        refine kMv (wl' := (wPl cI h p1 p2 p3 p4 al (fX3_write 64 wo se (v3_20 + 1)) fi ni pa)) (wc := (wArr cI p2 64 wo)) (w1 := (wArr cI p2 64 (fX3_write 64 wo se (v3_20 + 1)))) hP hD hS [2] rfl rfl rfl (va_runSN (As := [.ref p2, .int se, .int (v3_20 + 1)]) (rest := []) ⟨hx, hb, hml, hown, hts⟩ (c_X3_write l D cI cS p2 64 wo se (v3_20 + 1) (by decide)) ⟨va_cnB 3 hts gX0_tryAsking_X3_write_n40 rfl rfl rfl (hK.2.at 8 (q := (RX0, 40, yX3_write, "LieNights")) rfl) (hts _ (List.mem_of_getElem? (i := 21) rfl)) q_X3_write.2 ⟨Nat.le_of_ble_eq_true rfl, Nat.le_of_ble_eq_true rfl⟩, hts _ (List.mem_of_getElem? (i := 34) rfl), trivial⟩ (kMS hK hP hD [2] rfl rfl [.ref p2, .int se, .int (v3_20 + 1)]) rfl rfl hl.1 rfl (lv_room (Nat.le_of_ble_eq_true rfl)) dX0_tryAsking_124 ⟨Nat.zero_le _, Nat.zero_le _⟩) (fun H locs hP hD hS => ?_)
        refine lv_aload_n hx hb dX0_tryAsking_127 rfl (lv_at hl 0 rfl) ?_
        refine va_get (D := D) (ci := 0) (v := .ref p3) (C := RX0) (T := TX0) (N := 5) hx hb hts (fun _ h => List.mem_cons_of_mem _ (List.mem_append_right _ h)) hown hK.1 hP 0 rfl rfl 2 (by decide) (hts (.fieldLink RX0 20 "LieNights$Plan" "first" "[I") (List.mem_of_getElem? (i := 8) rfl)) (fun _ h9 => h9) rfl dX0_tryAsking_128 ?_
        refine lv_iload_n hx hb dX0_tryAsking_131 rfl (lv_at hl 1 rfl) ?_
        refine lv_iload_n hx hb dX0_tryAsking_132 rfl (lv_at hl 2 rfl) ?_
        refine kMv (wl' := (wPl cI h p1 p2 p3 p4 al (fX3_write 64 wo se (v3_20 + 1)) (fX3_write 64 fi se x) ni pa)) (wc := (wArr cI p3 64 fi)) (w1 := (wArr cI p3 64 (fX3_write 64 fi se x))) hP hD hS [3] rfl rfl rfl (va_runSN (As := [.ref p3, .int se, .int x]) (rest := []) ⟨hx, hb, hml, hown, hts⟩ (c_X3_write l D cI cS p3 64 fi se x (by decide)) ⟨va_cnB 3 hts gX0_tryAsking_X3_write_n40 rfl rfl rfl (hK.2.at 8 (q := (RX0, 40, yX3_write, "LieNights")) rfl) (hts _ (List.mem_of_getElem? (i := 21) rfl)) q_X3_write.2 ⟨Nat.le_of_ble_eq_true rfl, Nat.le_of_ble_eq_true rfl⟩, hts _ (List.mem_of_getElem? (i := 34) rfl), trivial⟩ (kMS hK hP hD [3] rfl rfl [.ref p3, .int se, .int x]) rfl rfl hl.1 rfl (lv_room (Nat.le_of_ble_eq_true rfl)) dX0_tryAsking_133 ⟨Nat.zero_le _, Nat.zero_le _⟩) (fun H locs hP hD hS => ?_)
        refine lv_aload_n hx hb dX0_tryAsking_136 rfl (lv_at hl 0 rfl) ?_
        refine va_get (D := D) (ci := 0) (v := .ref p4) (C := RX0) (T := TX0) (N := 5) hx hb hts (fun _ h => List.mem_cons_of_mem _ (List.mem_append_right _ h)) hown hK.1 hP 0 rfl rfl 3 (by decide) (hts (.fieldLink RX0 23 "LieNights$Plan" "nights" "[I") (List.mem_of_getElem? (i := 9) rfl)) (fun _ h9 => h9) rfl dX0_tryAsking_137 ?_
        refine lv_iload_n hx hb dX0_tryAsking_140 rfl (lv_at hl 1 rfl) ?_
        refine lv_aload_n hx hb dX0_tryAsking_141 rfl (lv_at hl 0 rfl) ?_
        refine lv_iload_n hx hb dX0_tryAsking_142 rfl (lv_at hl 1 rfl) ?_
        refine kPi (va_runV (As := [.int se]) (rest := [.int se, .ref p4]) ⟨hx, hb, hml, hown, hts⟩ (c_X0_nightsOf l D cI cS h p1 p2 p3 p4 al (fX3_write 64 wo se (v3_20 + 1)) (fX3_write 64 fi se x) ni pa se) (cwV 1 hts gX0_tryAsking_X0_nightsOf rfl rfl rfl q_X0_nightsOf ⟨Nat.le_of_ble_eq_true rfl, Nat.le_of_ble_eq_true rfl⟩) (kPV hK hP [0, 1, 2, 3, 4] rfl (va_recv hK.1 hP (ci := 0) (q0 := 0) rfl rfl) [.int se]) rfl rfl hl.1 rfl (lv_room (Nat.le_of_ble_eq_true rfl)) dX0_tryAsking_143 ⟨Nat.zero_le _, Nat.zero_le _⟩) ?_
        refine lv_iload hx hb dX0_tryAsking_146 (lv_at hl 4 rfl) ?_
        refine va_mmin hx hb (hml.trans hl.1.symm) hown (hts (.methodLink RX0 72 Lib.Math.min.name) (List.mem_of_getElem? (i := 10) rfl)) (hts (.static Lib.Math.min.name) (List.mem_of_getElem? (i := 11) rfl)) (hts (.initialized "java/lang/Math") (List.mem_of_getElem? (i := 5) rfl)) (hts (.code Lib.Math.min.name Lib.Math.min.code 2 (some .int)) (List.mem_of_getElem? (i := 12) rfl)) (Nat.le_of_ble_eq_true rfl) (Nat.le_of_ble_eq_true rfl) (Nat.zero_le _) (Nat.zero_le _) dX0_tryAsking_148 ?_
        refine kMv (wl' := (wPl cI h p1 p2 p3 p4 al (fX3_write 64 wo se (v3_20 + 1)) (fX3_write 64 fi se x) (fX3_write 64 ni se (if v4_20 < (fX0_nightsOf ni se) then v4_20 else (fX0_nightsOf ni se))) pa)) (wc := (wArr cI p4 64 ni)) (w1 := (wArr cI p4 64 (fX3_write 64 ni se (if v4_20 < (fX0_nightsOf ni se) then v4_20 else (fX0_nightsOf ni se))))) hP hD hS [4] rfl rfl rfl (va_runSN (As := [.ref p4, .int se, .int (if v4_20 < (fX0_nightsOf ni se) then v4_20 else (fX0_nightsOf ni se))]) (rest := []) ⟨hx, hb, hml, hown, hts⟩ (c_X3_write l D cI cS p4 64 ni se (if v4_20 < (fX0_nightsOf ni se) then v4_20 else (fX0_nightsOf ni se)) (by decide)) ⟨va_cnB 3 hts gX0_tryAsking_X3_write_n40 rfl rfl rfl (hK.2.at 8 (q := (RX0, 40, yX3_write, "LieNights")) rfl) (hts _ (List.mem_of_getElem? (i := 21) rfl)) q_X3_write.2 ⟨Nat.le_of_ble_eq_true rfl, Nat.le_of_ble_eq_true rfl⟩, hts _ (List.mem_of_getElem? (i := 34) rfl), trivial⟩ (kMS hK hP hD [4] rfl rfl [.ref p4, .int se, .int (if v4_20 < (fX0_nightsOf ni se) then v4_20 else (fX0_nightsOf ni se))]) rfl rfl hl.1 rfl (lv_room (Nat.le_of_ble_eq_true rfl)) dX0_tryAsking_151 ⟨Nat.zero_le _, Nat.zero_le _⟩) (fun H locs hP hD hS => ?_)
        have hR4 : (fX0_tryAsking al wo fi ni N se x) = ((fX3_write 64 wo se (v3_20 + 1)), (fX3_write 64 fi se x), (fX3_write 64 ni se (if v4_20 < (fX0_nightsOf ni se) then v4_20 else (fX0_nightsOf ni se)))) := hR2.trans (by unfold aX0_tryAsking_20; rw [if_neg c113])
        rw [hQ]
        exact W.vret hx hb hr (fun t ht hW => ⟨⟨(), rfl, trivial, (by show va_P D vwCl _ t.heap; rw [hR4, ht]; exact hP)⟩, hS.F ht⟩) hS.2.2 dX0_tryAsking_154
      have hlt20 : k20 < N := (kLt hk20 rfl hpa c26)
      refine lv_iload hx hb dX0_tryAsking_29 (lv_at hl 5 rfl) ?_
      refine lv_iload hx hb dX0_tryAsking_31 (lv_at hl 6 rfl) ?_
      refine kPi (va_runSN (As := [.int v5_20, .int (nI k20)]) (rest := []) ⟨hx, hb, hml, hown, hts⟩ (c_X3_has l D cI cS v5_20 (nI k20)) ⟨va_cnB 2 hts gX0_tryAsking_X3_has_n57 rfl rfl rfl (hK.2.at 9 (q := (RX0, 57, yX3_has, "LieNights")) rfl) (hts _ (List.mem_of_getElem? (i := 21) rfl)) q_X3_has.2 ⟨Nat.le_of_ble_eq_true rfl, Nat.le_of_ble_eq_true rfl⟩, hts _ (List.mem_of_getElem? (i := 20) rfl), trivial⟩ (kPS hK hP [] rfl [.int v5_20, .int (nI k20)]) rfl rfl hl.1 rfl (lv_room (Nat.le_of_ble_eq_true rfl)) dX0_tryAsking_33 ⟨Nat.zero_le _, Nat.zero_le _⟩) ?_
      refine lv_if_ne (tgt := 42) hx hb dX0_tryAsking_36 (by decide) (fun c36 => ?_) (fun c36 => ?_)
      · skip
        refine lv_iload hx hb dX0_tryAsking_42 (lv_at hl 5 rfl) ?_
        refine lv_aload_n hx hb dX0_tryAsking_44 rfl (lv_at hl 0 rfl) ?_
        refine va_get (D := D) (ci := 0) (v := .ref p1) (C := RX0) (T := TX0) (N := 5) hx hb hts (fun _ h => List.mem_cons_of_mem _ (List.mem_append_right _ h)) hown hK.1 hP 0 rfl rfl 0 (by decide) (hts (.fieldLink RX0 11 "LieNights$Plan" "alike" "[I") (List.mem_of_getElem? (i := 2) rfl)) (fun _ h9 => h9) rfl dX0_tryAsking_45 ?_
        refine lv_iload_n hx hb dX0_tryAsking_48 rfl (lv_at hl 2 rfl) ?_
        refine lv_bipush (v := 6) hx hb dX0_tryAsking_49 (by decide) ?_
        refine lv_imul hx hb dX0_tryAsking_51 ?_
        refine lv_iload hx hb dX0_tryAsking_52 (lv_at hl 6 rfl) ?_
        refine lv_iadd hx hb dX0_tryAsking_54 ?_
        refine kPi (va_runSN (As := [.ref p1, .int ((x * 6) + (nI k20))]) (rest := [.int v5_20]) ⟨hx, hb, hml, hown, hts⟩ (c_X3_at l D cI cS p1 36 al ((x * 6) + (nI k20)) (by decide)) ⟨va_cnB 2 hts gX0_tryAsking_X3_at_n26 rfl rfl rfl (hK.2.at 10 (q := (RX0, 26, yX3_at, "LieNights")) rfl) (hts _ (List.mem_of_getElem? (i := 21) rfl)) q_X3_at.2 ⟨Nat.le_of_ble_eq_true rfl, Nat.le_of_ble_eq_true rfl⟩, hts _ (List.mem_of_getElem? (i := 23) rfl), trivial⟩ (kPS hK hP [1] rfl [.ref p1, .int ((x * 6) + (nI k20))]) rfl rfl hl.1 rfl (lv_room (Nat.le_of_ble_eq_true rfl)) dX0_tryAsking_55 ⟨Nat.zero_le _, Nat.zero_le _⟩) ?_
        refine lv_iand hx hb dX0_tryAsking_58 ?_
        refine lv_istore (lv' := [(7, .int (v5_20 &&& (fX3_at 36 al ((x * 6) + (nI k20))))), (0, .ref h), (1, .int se), (2, .int x), (3, .int v3_20), (4, .int v4_20), (5, .int v5_20), (6, .int (nI k20))]) hx hb dX0_tryAsking_59 hl (by decide) rfl (fun ls hl => ?_)
        refine lv_iload hx hb dX0_tryAsking_61 (lv_at hl 0 rfl) ?_
        refine lv_iload_n hx hb dX0_tryAsking_63 rfl (lv_at hl 2 rfl) ?_
        refine lv_icmp_ne (tgt := 68) hx hb dX0_tryAsking_64 (by decide) (fun c64 => ?_) (fun c64 => ?_)
        · skip
          refine lv_iload hx hb dX0_tryAsking_68 (lv_at hl 6 rfl) ?_
          refine lv_iload hx hb dX0_tryAsking_70 (lv_at hl 0 rfl) ?_
          refine lv_iconst (v := (-1)) hx hb dX0_tryAsking_72 (by decide) ?_
          refine lv_ixor hx hb dX0_tryAsking_73 ?_
          refine lv_iand hx hb dX0_tryAsking_74 ?_
          refine lv_istore (lv' := [(5, .int (v5_20 &&& ((v5_20 &&& (fX3_at 36 al ((x * 6) + (nI k20)))) ^^^ (-1)))), (7, .int (v5_20 &&& (fX3_at 36 al ((x * 6) + (nI k20))))), (0, .ref h), (1, .int se), (2, .int x), (3, .int v3_20), (4, .int v4_20), (6, .int (nI k20))]) hx hb dX0_tryAsking_75 hl (by decide) rfl (fun ls hl => ?_)
          refine lv_iload_n hx hb dX0_tryAsking_77 rfl (lv_at hl 5 rfl) ?_
          refine lv_aload_n hx hb dX0_tryAsking_78 rfl (lv_at hl 2 rfl) ?_
          refine lv_iload hx hb dX0_tryAsking_79 (lv_at hl 1 rfl) ?_
          refine kPi (va_runV (As := [.int (v5_20 &&& (fX3_at 36 al ((x * 6) + (nI k20))))]) (rest := [.int v3_20]) ⟨hx, hb, hml, hown, hts⟩ (c_X0_worstOf l D cI cS h p1 p2 p3 p4 al wo fi ni pa (v5_20 &&& (fX3_at 36 al ((x * 6) + (nI k20))))) (cwV 1 hts gX0_tryAsking_X0_worstOf rfl rfl rfl q_X0_worstOf ⟨Nat.le_of_ble_eq_true rfl, Nat.le_of_ble_eq_true rfl⟩) (kPV hK hP [0, 1, 2, 3, 4] rfl (va_recv hK.1 hP (ci := 0) (q0 := 0) rfl rfl) [.int (v5_20 &&& (fX3_at 36 al ((x * 6) + (nI k20))))]) rfl rfl hl.1 rfl (lv_room (Nat.le_of_ble_eq_true rfl)) dX0_tryAsking_81 ⟨Nat.zero_le _, Nat.zero_le _⟩) ?_
          refine va_mmax hx hb (hml.trans hl.1.symm) hown (hts (.methodLink RX0 64 Lib.Math.max.name) (List.mem_of_getElem? (i := 3) rfl)) (hts (.static Lib.Math.max.name) (List.mem_of_getElem? (i := 4) rfl)) (hts (.initialized "java/lang/Math") (List.mem_of_getElem? (i := 5) rfl)) (hts (.code Lib.Math.max.name Lib.Math.max.code 2 (some .int)) (List.mem_of_getElem? (i := 6) rfl)) (Nat.le_of_ble_eq_true rfl) (Nat.le_of_ble_eq_true rfl) (Nat.zero_le _) (Nat.zero_le _) dX0_tryAsking_84 ?_
          refine lv_istore_n (lv' := [(3, .int (if v3_20 < (fX0_worstOf wo (v5_20 &&& (fX3_at 36 al ((x * 6) + (nI k20))))) then (fX0_worstOf wo (v5_20 &&& (fX3_at 36 al ((x * 6) + (nI k20))))) else v3_20)), (5, .int (v5_20 &&& ((v5_20 &&& (fX3_at 36 al ((x * 6) + (nI k20)))) ^^^ (-1)))), (7, .int (v5_20 &&& (fX3_at 36 al ((x * 6) + (nI k20))))), (0, .ref h), (1, .int se), (2, .int x), (4, .int v4_20), (6, .int (nI k20))]) hx hb dX0_tryAsking_87 rfl hl (by decide) rfl (fun ls hl => ?_)
          refine lv_iload hx hb dX0_tryAsking_88 (lv_at hl 6 rfl) ?_
          refine lv_aload_n hx hb dX0_tryAsking_90 rfl (lv_at hl 3 rfl) ?_
          refine lv_iload hx hb dX0_tryAsking_91 (lv_at hl 2 rfl) ?_
          refine kPi (va_runV (As := [.int (v5_20 &&& (fX3_at 36 al ((x * 6) + (nI k20))))]) (rest := [.int v4_20]) ⟨hx, hb, hml, hown, hts⟩ (c_X0_nightsOf l D cI cS h p1 p2 p3 p4 al wo fi ni pa (v5_20 &&& (fX3_at 36 al ((x * 6) + (nI k20))))) (cwV 1 hts gX0_tryAsking_X0_nightsOf rfl rfl rfl q_X0_nightsOf ⟨Nat.le_of_ble_eq_true rfl, Nat.le_of_ble_eq_true rfl⟩) (kPV hK hP [0, 1, 2, 3, 4] rfl (va_recv hK.1 hP (ci := 0) (q0 := 0) rfl rfl) [.int (v5_20 &&& (fX3_at 36 al ((x * 6) + (nI k20))))]) rfl rfl hl.1 rfl (lv_room (Nat.le_of_ble_eq_true rfl)) dX0_tryAsking_93 ⟨Nat.zero_le _, Nat.zero_le _⟩) ?_
          refine lv_iadd hx hb dX0_tryAsking_96 ?_
          refine lv_istore (lv' := [(4, .int (v4_20 + (fX0_nightsOf ni (v5_20 &&& (fX3_at 36 al ((x * 6) + (nI k20))))))), (3, .int (if v3_20 < (fX0_worstOf wo (v5_20 &&& (fX3_at 36 al ((x * 6) + (nI k20))))) then (fX0_worstOf wo (v5_20 &&& (fX3_at 36 al ((x * 6) + (nI k20))))) else v3_20)), (5, .int (v5_20 &&& ((v5_20 &&& (fX3_at 36 al ((x * 6) + (nI k20)))) ^^^ (-1)))), (7, .int (v5_20 &&& (fX3_at 36 al ((x * 6) + (nI k20))))), (0, .ref h), (1, .int se), (2, .int x), (6, .int (nI k20))]) hx hb dX0_tryAsking_97 hl (by decide) rfl (fun ls hl => ?_)
          refine lv_iinc (v := (nI (k20 + 1))) (lv' := [(6, .int (nI (k20 + 1))), (4, .int (v4_20 + (fX0_nightsOf ni (v5_20 &&& (fX3_at 36 al ((x * 6) + (nI k20))))))), (3, .int (if v3_20 < (fX0_worstOf wo (v5_20 &&& (fX3_at 36 al ((x * 6) + (nI k20))))) then (fX0_worstOf wo (v5_20 &&& (fX3_at 36 al ((x * 6) + (nI k20))))) else v3_20)), (5, .int (v5_20 &&& ((v5_20 &&& (fX3_at 36 al ((x * 6) + (nI k20)))) ^^^ (-1)))), (7, .int (v5_20 &&& (fX3_at 36 al ((x * 6) + (nI k20))))), (0, .ref h), (1, .int se), (2, .int x)]) hx hb dX0_tryAsking_99 hl (k := 7) rfl (nI_1 (k20)) (by decide) rfl (fun ls hl => ?_)
          refine lv_goto (tgt := 20) hx hb dX0_tryAsking_102 (by decide) ?_
          have hR5 : sX0_tryAsking_20 al wo fi ni se x k20 v3_20 v4_20 v5_20 = (.inl ((if v3_20 < (fX0_worstOf wo (v5_20 &&& (fX3_at 36 al ((x * 6) + (nI k20))))) then (fX0_worstOf wo (v5_20 &&& (fX3_at 36 al ((x * 6) + (nI k20))))) else v3_20), (v4_20 + (fX0_nightsOf ni (v5_20 &&& (fX3_at 36 al ((x * 6) + (nI k20)))))), (v5_20 &&& ((v5_20 &&& (fX3_at 36 al ((x * 6) + (nI k20)))) ^^^ (-1))))) := (by unfold sX0_tryAsking_20; rw [if_neg c36, if_neg c64])
          exact ih20 (k20 + 1) hlt20 (by omega) _ _ _ (lq_next hacc20 hR5)  _ _ hP hD hS ls (lv_sub hl [5, 6, 7, 2, 1, 3, 0] rfl)
        have hR6 : sX0_tryAsking_20 al wo fi ni se x k20 v3_20 v4_20 v5_20 = (.inr (wo, fi, ni)) := (by unfold sX0_tryAsking_20; rw [if_neg c36, if_pos c64])
        have hR7 : (fX0_tryAsking al wo fi ni N se x) = (wo, fi, ni) := hR1.trans (lq_exit hacc20 hR6 hlt20)
        rw [hQ]
        exact W.vret hx hb hr (fun t ht hW => ⟨⟨(), rfl, trivial, (by show va_P D vwCl _ t.heap; rw [hR7, ht]; exact hP)⟩, hS.F ht⟩) hS.2.2 dX0_tryAsking_67
      refine lv_goto (tgt := 99) hx hb dX0_tryAsking_39 (by decide) ?_
      refine lv_iinc (v := (nI (k20 + 1))) (lv' := [(6, .int (nI (k20 + 1))), (0, .ref h), (1, .int se), (2, .int x), (3, .int v3_20), (4, .int v4_20), (5, .int v5_20)]) hx hb dX0_tryAsking_99 hl (k := 6) rfl (nI_1 (k20)) (by decide) rfl (fun ls hl => ?_)
      refine lv_goto (tgt := 20) hx hb dX0_tryAsking_102 (by decide) ?_
      have hR8 : sX0_tryAsking_20 al wo fi ni se x k20 v3_20 v4_20 v5_20 = (.inl (v3_20, v4_20, v5_20)) := (by unfold sX0_tryAsking_20; rw [if_pos c36])
      exact ih20 (k20 + 1) hlt20 (by omega) _ _ _ (lq_next hacc20 hR8)  _ _ hP hD hS ls (lv_sub hl [1, 2, 3, 4, 5, 6, 0] rfl)
  exact loop20 (N + 1) 0 (Nat.zero_le _) (by omega) _ _ _ rfl  _ _ hP hD hS ls (lv_sub hl [4, 5, 6, 3, 2, 1, 0] rfl)

def aX0_make_61 (an : Int32) (wal_10 wwo_61 wfi_61 wni_61 : Nat → Int32) : (Nat → Int32) × (Nat → Int32) × (Nat → Int32) × (Nat → Int32) × Int32 := (wal_10, wwo_61, wfi_61, wni_61, (fX1_answers an))
def aX0_make_93 (wwo_93 wfi_93 wni_93 : Nat → Int32) : ((Nat → Int32) × (Nat → Int32) × (Nat → Int32)) := (wwo_93, wfi_93, wni_93)
def sX0_make_93 (N : Nat) (wal_10 : Nat → Int32) (k61 k93 : Nat) (wwo_93 wfi_93 wni_93 : Nat → Int32) : ((Nat → Int32) × (Nat → Int32) × (Nat → Int32)) := ((fX0_tryAsking wal_10 wwo_93 wfi_93 wni_93 N (nI (k61 + 1)) (nI k93)).1, (fX0_tryAsking wal_10 wwo_93 wfi_93 wni_93 N (nI (k61 + 1)) (nI k93)).2.1, (fX0_tryAsking wal_10 wwo_93 wfi_93 wni_93 N (nI (k61 + 1)) (nI k93)).2.2)
def sX0_make_61 (N : Nat) (wal_10 : Nat → Int32) (k61 : Nat) (wwo_61 wfi_61 wni_61 : Nat → Int32) : ((Nat → Int32) × (Nat → Int32) × (Nat → Int32)) := (aX0_make_93  ((lp (fun k a => sX0_make_93 N wal_10 k61 k a.1 a.2.1 a.2.2) ((fX3_write 64 wwo_61 (nI (k61 + 1)) 1000), wfi_61, (fX3_write 64 wni_61 (nI (k61 + 1)) 1000)) N).1) ((lp (fun k a => sX0_make_93 N wal_10 k61 k a.1 a.2.1 a.2.2) ((fX3_write 64 wwo_61 (nI (k61 + 1)) 1000), wfi_61, (fX3_write 64 wni_61 (nI (k61 + 1)) 1000)) N).2.1) ((lp (fun k a => sX0_make_93 N wal_10 k61 k a.1 a.2.1 a.2.2) ((fX3_write 64 wwo_61 (nI (k61 + 1)) 1000), wfi_61, (fX3_write 64 wni_61 (nI (k61 + 1)) 1000)) N).2.2))
def aX0_make_10 (wo fi ni : Nat → Int32) (an : Int32) (N M : Nat) (wal_10 : Nat → Int32) : (Nat → Int32) × (Nat → Int32) × (Nat → Int32) × (Nat → Int32) × Int32 := (aX0_make_61 an wal_10 ((lp (fun k a => sX0_make_61 N wal_10 k a.1 a.2.1 a.2.2) (wo, fi, ni) M).1) ((lp (fun k a => sX0_make_61 N wal_10 k a.1 a.2.1 a.2.2) (wo, fi, ni) M).2.1) ((lp (fun k a => sX0_make_61 N wal_10 k a.1 a.2.1 a.2.2) (wo, fi, ni) M).2.2))
def aX0_make_20 (wal_20 : Nat → Int32) : ((Nat → Int32)) := wal_20
def sX0_make_20 (kd pl : Nat → Int32) (N k10 k20 : Nat) (wal_20 : Nat → Int32) : ((Nat → Int32)) := (fX3_write 36 wal_20 (((nI k10) * 6) + (nI k20)) (fX1_alike kd pl N (nI k10) (nI k20)))
def sX0_make_10 (kd pl : Nat → Int32) (N k10 : Nat) (wal_10 : Nat → Int32) : ((Nat → Int32)) := (aX0_make_20  (lp (fun k a => sX0_make_20 kd pl N k10 k a) wal_10 N))
def fX0_make (al wo fi ni : Nat → Int32) (an : Int32) (kd pl : Nat → Int32) (N M : Nat) : (Nat → Int32) × (Nat → Int32) × (Nat → Int32) × (Nat → Int32) × Int32 := (aX0_make_10 wo fi ni an N M (lp (fun k a => sX0_make_10 kd pl N k a) al N))
theorem q_X0_make : yX0_make.cls = RX0 ∧ yX0_make.cls ≠ "java/lang/invoke/MethodHandle" ∧ yX0_make.cls ≠ "java/lang/invoke/VarHandle" ∧ (parseMethodDescriptor yX0_make.desc).map (fun d => d.parameters.length) = some 1 := by decide +kernel
set_option maxHeartbeats 4000000 in
set_option maxRecDepth 100000 in
theorem c_X0_make (l : Launch) (D : va_G) (cI cS : ClassId) (h p1 p2 p3 p4 : Nat) (al wo fi ni : Nat → Int32) (pa : Int32) (h2 ak ap aw : Nat) (an pn gr : Int32) (kd pl wt : Nat → Int32) (N M : Nat) (ha : an = nI N) (hN : N ≤ 6) (hM : fX1_all an = nI M) (hMb : M < 64) : MMv l yX0_make wsX0_make { frames := 3, cells := 0, slots := 0, locals := 69 } D cI cS (wPlSec cI h p1 p2 p3 p4 al wo fi ni pa h2 ak ap aw an pn gr kd pl wt) [.ref h, .ref h2] (wPlSec cI h p1 p2 p3 p4 ((fX0_make al wo fi ni an kd pl N M).1) ((fX0_make al wo fi ni an kd pl N M).2.1) ((fX0_make al wo fi ni an kd pl N M).2.2.1) ((fX0_make al wo fi ni an kd pl N M).2.2.2.1) ((fX0_make al wo fi ni an kd pl N M).2.2.2.2) h2 ak ap aw an pn gr kd pl wt) := by
  refine kEnterM (cc := cX0_make) (maxL := 4) (ret := none) (by decide) rfl (Nat.le_of_ble_eq_true rfl) ?_
  intro p e s m below meth c ls Qf hQ hx hb hml hr hlocks hown hts hK hP hD hS hl
  have hown : s.vm.findClass RX0 = some m.cls := hown
  have hl : lv_has ls 4 [(0, .ref h), (1, .ref h2)] := hl
  generalize kA (wPlSec cI h p1 p2 p3 p4 al wo fi ni pa h2 ak ap aw an pn gr kd pl wt) = A at hQ hD hS
  refine lv_aload_n hx hb dX0_make_0 rfl (lv_at hl 0 rfl) ?_
  refine lv_aload_n hx hb dX0_make_1 rfl (lv_at hl 1 rfl) ?_
  refine kPi (va_runV (As := []) (rest := [.ref h]) ⟨hx, hb, hml, hown, hts⟩ (c_X1_answers l D cI cS h2 ak ap aw an pn gr kd pl wt) (cwV 0 hts gX0_make_X1_answers rfl rfl rfl q_X1_answers ⟨Nat.le_of_ble_eq_true rfl, Nat.le_of_ble_eq_true rfl⟩) (kPV hK hP [5, 6, 7, 8] rfl (va_recv hK.1 hP (ci := 1) (q0 := 5) rfl rfl) []) rfl rfl hl.1 rfl (lv_room (Nat.le_of_ble_eq_true rfl)) dX0_make_2 ⟨Nat.zero_le _, Nat.zero_le _⟩) ?_
  refine va_put (D := D) (ci := 0) (v := .int (fX1_answers an)) (ty := tyX0 4) (C := RX0) (T := TX0) (N := 5) hx hb hts (fun _ h => List.mem_cons_of_mem _ (List.mem_append_left _ (List.mem_append_right _ h))) tyX0 tyX0_ok nmX0 hown hK.1 hP hD hS 0 rfl rfl 4 (by decide) (hts (.fieldLink RX0 34 "LieNights$Plan" "answers" "I") (List.mem_of_getElem? (i := 1) rfl)) (fun _ h9 => h9) rfl (tyX0_ok 4 (by decide)) rfl rfl (Nat.le_of_ble_eq_true rfl) dX0_make_5 (fun H locs hP hD hS => ?_)
  have hP : va_P D vwCl (wPlSec cI h p1 p2 p3 p4 al wo fi ni (fX1_answers an) h2 ak ap aw an pn gr kd pl wt) H := hP
  have hD : va_D A (wPlSec cI h p1 p2 p3 p4 al wo fi ni (fX1_answers an) h2 ak ap aw an pn gr kd pl wt) := hD
  refine lv_iconst (v := 0) hx hb dX0_make_8 (by decide) ?_
  refine lv_istore_n (lv' := [(2, .int 0), (0, .ref h), (1, .ref h2)]) hx hb dX0_make_9 rfl hl (by decide) rfl (fun ls hl => ?_)
  have hR1 : (fX0_make al wo fi ni an kd pl N M) = (aX0_make_10 wo fi ni an N M (lp (fun k a => sX0_make_10 kd pl N k a) al N)) := rfl
  have loop10 : ∀ (n k10 : Nat), k10 ≤ N → N + 1 ≤ k10 + n → ∀ (wal_10 : Nat → Int32), lp (fun k a => sX0_make_10 kd pl N k a) al k10 = wal_10 →  ∀ (H : Heap) (locs : List Loc), va_P D vwCl (wPlSec cI h p1 p2 p3 p4 wal_10 wo fi ni (fX1_answers an) h2 ak ap aw an pn gr kd pl wt) H → va_D A (wPlSec cI h p1 p2 p3 p4 wal_10 wo fi ni (fX1_answers an) h2 ak ap aw an pn gr kd pl wt) → va_S A s.heap H locs → ∀ (ls : Array Slot), lv_has ls 4 [(0, .ref h), (1, .ref h2), (2, .int (nI k10))] → W p l e { frames := 3, cells := 0, slots := 0, locals := 69 } s m ([.ref h, .ref h2] : List Value).toArray below meth c H locs 0 0 Qf (F0 m 10 ls []) := by
    intro n
    induction n with
    | zero => intro k10 h1 h2; exact absurd h2 (by omega)
    | succ n ih =>
      intro k10 hk10 hn10 wal_10 hacc10  H locs hP hD hS ls hl
      have ih10 := ih
      refine lv_iload_n hx hb dX0_make_10 rfl (lv_at hl 2 rfl) ?_
      refine lv_aload_n hx hb dX0_make_11 rfl (lv_at hl 0 rfl) ?_
      refine va_get (D := D) (ci := 0) (v := .int (fX1_answers an)) (C := RX0) (T := TX0) (N := 5) hx hb hts (fun _ h => List.mem_cons_of_mem _ (List.mem_append_left _ (List.mem_append_right _ h))) hown hK.1 hP 0 rfl rfl 4 (by decide) (hts (.fieldLink RX0 34 "LieNights$Plan" "answers" "I") (List.mem_of_getElem? (i := 1) rfl)) (fun _ h9 => h9) rfl dX0_make_12 ?_
      refine lv_icmp_ge (tgt := 59) hx hb dX0_make_15 (by decide) (fun c15 => ?_) (fun c15 => ?_)
      · skip
        have hkN : k10 = N := (kEnd hk10 rfl ha (by omega) c15)
        rw [hkN] at hacc10
        have hR2 : (fX0_make al wo fi ni an kd pl N M) = aX0_make_10 wo fi ni an N M wal_10 := hR1.trans (lp_end (x := wal_10) (g := (fun a => aX0_make_10 wo fi ni an N M a)) hacc10)
        refine lv_iconst (v := 1) hx hb dX0_make_59 (by decide) ?_
        refine lv_istore_n (lv' := [(2, .int 1), (0, .ref h), (1, .ref h2)]) hx hb dX0_make_60 rfl hl (by decide) rfl (fun ls hl => ?_)
        have hR3 : (fX0_make al wo fi ni an kd pl N M) = (aX0_make_61 an wal_10 ((lp (fun k a => sX0_make_61 N wal_10 k a.1 a.2.1 a.2.2) (wo, fi, ni) M).1) ((lp (fun k a => sX0_make_61 N wal_10 k a.1 a.2.1 a.2.2) (wo, fi, ni) M).2.1) ((lp (fun k a => sX0_make_61 N wal_10 k a.1 a.2.1 a.2.2) (wo, fi, ni) M).2.2)) := hR2.trans rfl
        have loop61 : ∀ (n k61 : Nat), k61 ≤ M → M + 1 ≤ k61 + n → ∀ (wwo_61 : Nat → Int32) (wfi_61 : Nat → Int32) (wni_61 : Nat → Int32), lp (fun k a => sX0_make_61 N wal_10 k a.1 a.2.1 a.2.2) (wo, fi, ni) k61 = (wwo_61, wfi_61, wni_61) →  ∀ (H : Heap) (locs : List Loc), va_P D vwCl (wPlSec cI h p1 p2 p3 p4 wal_10 wwo_61 wfi_61 wni_61 (fX1_answers an) h2 ak ap aw an pn gr kd pl wt) H → va_D A (wPlSec cI h p1 p2 p3 p4 wal_10 wwo_61 wfi_61 wni_61 (fX1_answers an) h2 ak ap aw an pn gr kd pl wt) → va_S A s.heap H locs → ∀ (ls : Array Slot), lv_has ls 4 [(0, .ref h), (1, .ref h2), (2, .int (nI (k61 + 1)))] → W p l e { frames := 3, cells := 0, slots := 0, locals := 69 } s m ([.ref h, .ref h2] : List Value).toArray below meth c H locs 0 0 Qf (F0 m 61 ls []) := by
          intro n
          induction n with
          | zero => intro k61 h1 h2; exact absurd h2 (by omega)
          | succ n ih =>
            intro k61 hk61 hn61 wwo_61 wfi_61 wni_61 hacc61  H locs hP hD hS ls hl
            have ih61 := ih
            refine lv_iload_n hx hb dX0_make_61 rfl (lv_at hl 2 rfl) ?_
            refine lv_aload_n hx hb dX0_make_62 rfl (lv_at hl 1 rfl) ?_
            refine kPi (va_runV (As := []) (rest := [.int (nI (k61 + 1))]) ⟨hx, hb, hml, hown, hts⟩ (c_X1_all l D cI cS h2 ak ap aw an pn gr kd pl wt) (cwV 0 hts gX0_make_X1_all rfl rfl rfl q_X1_all ⟨Nat.le_of_ble_eq_true rfl, Nat.le_of_ble_eq_true rfl⟩) (kPV hK hP [5, 6, 7, 8] rfl (va_recv hK.1 hP (ci := 1) (q0 := 5) rfl rfl) []) rfl rfl hl.1 rfl (lv_room (Nat.le_of_ble_eq_true rfl)) dX0_make_63 ⟨Nat.zero_le _, Nat.zero_le _⟩) ?_
            refine lv_icmp_gt (tgt := 119) hx hb dX0_make_66 (by decide) (fun c66 => ?_) (fun c66 => ?_)
            · skip
              have hkN : k61 = M := (kEndS hk61 rfl hM (by omega) c66)
              rw [hkN] at hacc61
              have hR4 : (fX0_make al wo fi ni an kd pl N M) = aX0_make_61 an wal_10 wwo_61 wfi_61 wni_61 := hR3.trans (lp_end (x := (wwo_61, wfi_61, wni_61)) (g := (fun a => aX0_make_61 an wal_10 a.1 a.2.1 a.2.2)) hacc61)
              have hR5 : (fX0_make al wo fi ni an kd pl N M) = (wal_10, wwo_61, wfi_61, wni_61, (fX1_answers an)) := hR4.trans rfl
              rw [hQ]
              exact W.vret hx hb hr (fun t ht hW => ⟨⟨(), rfl, trivial, (by show va_P D vwCl _ t.heap; rw [hR5, ht]; exact hP)⟩, hS.F ht⟩) hS.2.2 dX0_make_119
            have hlt61 : k61 < M := (kLtS hk61 rfl hM (by omega) c66)
            refine lv_aload_n hx hb dX0_make_69 rfl (lv_at hl 0 rfl) ?_
            refine va_get (D := D) (ci := 0) (v := .ref p2) (C := RX0) (T := TX0) (N := 5) hx hb hts (fun _ h => List.mem_cons_of_mem _ (List.mem_append_left _ (List.mem_append_right _ h))) hown hK.1 hP 0 rfl rfl 1 (by decide) (hts (.fieldLink RX0 17 "LieNights$Plan" "worst" "[I") (List.mem_of_getElem? (i := 3) rfl)) (fun _ h9 => h9) rfl dX0_make_70 ?_
            refine lv_iload_n hx hb dX0_make_73 rfl (lv_at hl 2 rfl) ?_
            refine lv_sipush (v := 1000) hx hb dX0_make_74 (by decide) ?_
            refine kMv (wl' := (wPlSec cI h p1 p2 p3 p4 wal_10 (fX3_write 64 wwo_61 (nI (k61 + 1)) 1000) wfi_61 wni_61 (fX1_answers an) h2 ak ap aw an pn gr kd pl wt)) (wc := (wArr cI p2 64 wwo_61)) (w1 := (wArr cI p2 64 (fX3_write 64 wwo_61 (nI (k61 + 1)) 1000))) hP hD hS [2] rfl rfl rfl (va_runSN (As := [.ref p2, .int (nI (k61 + 1)), .int 1000]) (rest := []) ⟨hx, hb, hml, hown, hts⟩ (c_X3_write l D cI cS p2 64 wwo_61 (nI (k61 + 1)) 1000 (by decide)) ⟨va_cnB 3 hts gX0_make_X3_write_n40 rfl rfl rfl (hK.2.at 8 (q := (RX0, 40, yX3_write, "LieNights")) rfl) (hts _ (List.mem_of_getElem? (i := 26) rfl)) q_X3_write.2 ⟨Nat.le_of_ble_eq_true rfl, Nat.le_of_ble_eq_true rfl⟩, hts _ (List.mem_of_getElem? (i := 28) rfl), trivial⟩ (kMS hK hP hD [2] rfl rfl [.ref p2, .int (nI (k61 + 1)), .int 1000]) rfl rfl hl.1 rfl (lv_room (Nat.le_of_ble_eq_true rfl)) dX0_make_77 ⟨Nat.zero_le _, Nat.zero_le _⟩) (fun H locs hP hD hS => ?_)
            refine lv_aload_n hx hb dX0_make_80 rfl (lv_at hl 0 rfl) ?_
            refine va_get (D := D) (ci := 0) (v := .ref p4) (C := RX0) (T := TX0) (N := 5) hx hb hts (fun _ h => List.mem_cons_of_mem _ (List.mem_append_left _ (List.mem_append_right _ h))) hown hK.1 hP 0 rfl rfl 3 (by decide) (hts (.fieldLink RX0 23 "LieNights$Plan" "nights" "[I") (List.mem_of_getElem? (i := 4) rfl)) (fun _ h9 => h9) rfl dX0_make_81 ?_
            refine lv_iload_n hx hb dX0_make_84 rfl (lv_at hl 2 rfl) ?_
            refine lv_sipush (v := 1000) hx hb dX0_make_85 (by decide) ?_
            refine kMv (wl' := (wPlSec cI h p1 p2 p3 p4 wal_10 (fX3_write 64 wwo_61 (nI (k61 + 1)) 1000) wfi_61 (fX3_write 64 wni_61 (nI (k61 + 1)) 1000) (fX1_answers an) h2 ak ap aw an pn gr kd pl wt)) (wc := (wArr cI p4 64 wni_61)) (w1 := (wArr cI p4 64 (fX3_write 64 wni_61 (nI (k61 + 1)) 1000))) hP hD hS [4] rfl rfl rfl (va_runSN (As := [.ref p4, .int (nI (k61 + 1)), .int 1000]) (rest := []) ⟨hx, hb, hml, hown, hts⟩ (c_X3_write l D cI cS p4 64 wni_61 (nI (k61 + 1)) 1000 (by decide)) ⟨va_cnB 3 hts gX0_make_X3_write_n40 rfl rfl rfl (hK.2.at 8 (q := (RX0, 40, yX3_write, "LieNights")) rfl) (hts _ (List.mem_of_getElem? (i := 26) rfl)) q_X3_write.2 ⟨Nat.le_of_ble_eq_true rfl, Nat.le_of_ble_eq_true rfl⟩, hts _ (List.mem_of_getElem? (i := 28) rfl), trivial⟩ (kMS hK hP hD [4] rfl rfl [.ref p4, .int (nI (k61 + 1)), .int 1000]) rfl rfl hl.1 rfl (lv_room (Nat.le_of_ble_eq_true rfl)) dX0_make_88 ⟨Nat.zero_le _, Nat.zero_le _⟩) (fun H locs hP hD hS => ?_)
            refine lv_iconst (v := 0) hx hb dX0_make_91 (by decide) ?_
            refine lv_istore_n (lv' := [(3, .int 0), (0, .ref h), (1, .ref h2), (2, .int (nI (k61 + 1)))]) hx hb dX0_make_92 rfl hl (by decide) rfl (fun ls hl => ?_)
            have hR6 : sX0_make_61 N wal_10 k61 wwo_61 wfi_61 wni_61 = (aX0_make_93  ((lp (fun k a => sX0_make_93 N wal_10 k61 k a.1 a.2.1 a.2.2) ((fX3_write 64 wwo_61 (nI (k61 + 1)) 1000), wfi_61, (fX3_write 64 wni_61 (nI (k61 + 1)) 1000)) N).1) ((lp (fun k a => sX0_make_93 N wal_10 k61 k a.1 a.2.1 a.2.2) ((fX3_write 64 wwo_61 (nI (k61 + 1)) 1000), wfi_61, (fX3_write 64 wni_61 (nI (k61 + 1)) 1000)) N).2.1) ((lp (fun k a => sX0_make_93 N wal_10 k61 k a.1 a.2.1 a.2.2) ((fX3_write 64 wwo_61 (nI (k61 + 1)) 1000), wfi_61, (fX3_write 64 wni_61 (nI (k61 + 1)) 1000)) N).2.2)) := rfl
            have loop93 : ∀ (n k93 : Nat), k93 ≤ N → N + 1 ≤ k93 + n → ∀ (wwo_93 : Nat → Int32) (wfi_93 : Nat → Int32) (wni_93 : Nat → Int32), lp (fun k a => sX0_make_93 N wal_10 k61 k a.1 a.2.1 a.2.2) ((fX3_write 64 wwo_61 (nI (k61 + 1)) 1000), wfi_61, (fX3_write 64 wni_61 (nI (k61 + 1)) 1000)) k93 = (wwo_93, wfi_93, wni_93) →  ∀ (H : Heap) (locs : List Loc), va_P D vwCl (wPlSec cI h p1 p2 p3 p4 wal_10 wwo_93 wfi_93 wni_93 (fX1_answers an) h2 ak ap aw an pn gr kd pl wt) H → va_D A (wPlSec cI h p1 p2 p3 p4 wal_10 wwo_93 wfi_93 wni_93 (fX1_answers an) h2 ak ap aw an pn gr kd pl wt) → va_S A s.heap H locs → ∀ (ls : Array Slot), lv_has ls 4 [(0, .ref h), (1, .ref h2), (2, .int (nI (k61 + 1))), (3, .int (nI k93))] → W p l e { frames := 3, cells := 0, slots := 0, locals := 69 } s m ([.ref h, .ref h2] : List Value).toArray below meth c H locs 0 0 Qf (F0 m 93 ls []) := by
              intro n
              induction n with
              | zero => intro k93 h1 h2; exact absurd h2 (by omega)
              | succ n ih =>
                intro k93 hk93 hn93 wwo_93 wfi_93 wni_93 hacc93  H locs hP hD hS ls hl
                have ih93 := ih
                refine lv_iload_n hx hb dX0_make_93 rfl (lv_at hl 3 rfl) ?_
                refine lv_aload_n hx hb dX0_make_94 rfl (lv_at hl 0 rfl) ?_
                refine va_get (D := D) (ci := 0) (v := .int (fX1_answers an)) (C := RX0) (T := TX0) (N := 5) hx hb hts (fun _ h => List.mem_cons_of_mem _ (List.mem_append_left _ (List.mem_append_right _ h))) hown hK.1 hP 0 rfl rfl 4 (by decide) (hts (.fieldLink RX0 34 "LieNights$Plan" "answers" "I") (List.mem_of_getElem? (i := 1) rfl)) (fun _ h9 => h9) rfl dX0_make_95 ?_
                refine lv_icmp_ge (tgt := 113) hx hb dX0_make_98 (by decide) (fun c98 => ?_) (fun c98 => ?_)
                · skip
                  have hkN : k93 = N := (kEnd hk93 rfl ha (by omega) c98)
                  rw [hkN] at hacc93
                  have hR7 : sX0_make_61 N wal_10 k61 wwo_61 wfi_61 wni_61 = aX0_make_93  wwo_93 wfi_93 wni_93 := hR6.trans (lp_end (x := (wwo_93, wfi_93, wni_93)) (g := (fun a => aX0_make_93  a.1 a.2.1 a.2.2)) hacc93)
                  refine lv_iinc (v := (nI ((k61 + 1) + 1))) (lv' := [(2, .int (nI ((k61 + 1) + 1))), (0, .ref h), (1, .ref h2), (3, .int (nI k93))]) hx hb dX0_make_113 hl (k := 2) rfl (nI_1 ((k61 + 1))) (by decide) rfl (fun ls hl => ?_)
                  refine lv_goto (tgt := 61) hx hb dX0_make_116 (by decide) ?_
                  have hR8 : sX0_make_61 N wal_10 k61 wwo_61 wfi_61 wni_61 = (wwo_93, wfi_93, wni_93) := hR7.trans rfl
                  exact ih61 (k61 + 1) hlt61 (by omega) _ _ _ (lp_next hacc61 hR8)  _ _ hP hD hS ls (lv_sub hl [1, 2, 0] rfl)
                have hlt93 : k93 < N := (kLt hk93 rfl ha c98)
                refine lv_aload_n hx hb dX0_make_101 rfl (lv_at hl 0 rfl) ?_
                refine lv_iload_n hx hb dX0_make_102 rfl (lv_at hl 2 rfl) ?_
                refine lv_iload_n hx hb dX0_make_103 rfl (lv_at hl 3 rfl) ?_
                refine kMv (wl' := (wPlSec cI h p1 p2 p3 p4 wal_10 ((fX0_tryAsking wal_10 wwo_93 wfi_93 wni_93 N (nI (k61 + 1)) (nI k93)).1) ((fX0_tryAsking wal_10 wwo_93 wfi_93 wni_93 N (nI (k61 + 1)) (nI k93)).2.1) ((fX0_tryAsking wal_10 wwo_93 wfi_93 wni_93 N (nI (k61 + 1)) (nI k93)).2.2) (fX1_answers an) h2 ak ap aw an pn gr kd pl wt)) (wc := (wPl cI h p1 p2 p3 p4 wal_10 wwo_93 wfi_93 wni_93 (fX1_answers an))) (w1 := (wPl cI h p1 p2 p3 p4 wal_10 ((fX0_tryAsking wal_10 wwo_93 wfi_93 wni_93 N (nI (k61 + 1)) (nI k93)).1) ((fX0_tryAsking wal_10 wwo_93 wfi_93 wni_93 N (nI (k61 + 1)) (nI k93)).2.1) ((fX0_tryAsking wal_10 wwo_93 wfi_93 wni_93 N (nI (k61 + 1)) (nI k93)).2.2) (fX1_answers an))) hP hD hS [0, 1, 2, 3, 4] rfl rfl rfl (va_runV (As := [.int (nI (k61 + 1)), .int (nI k93)]) (rest := []) ⟨hx, hb, hml, hown, hts⟩ (c_X0_tryAsking l D cI cS h p1 p2 p3 p4 wal_10 wwo_93 wfi_93 wni_93 (fX1_answers an) N (nI (k61 + 1)) (nI k93) ha hN) (cwV 2 hts gX0_make_X0_tryAsking rfl rfl rfl q_X0_tryAsking ⟨Nat.le_of_ble_eq_true rfl, Nat.le_of_ble_eq_true rfl⟩) (kMV hK hP hD [0, 1, 2, 3, 4] rfl rfl (va_recv hK.1 hP (ci := 0) (q0 := 0) rfl rfl) [.int (nI (k61 + 1)), .int (nI k93)]) rfl rfl hl.1 rfl (lv_room (Nat.le_of_ble_eq_true rfl)) dX0_make_104 ⟨Nat.zero_le _, Nat.zero_le _⟩) (fun H locs hP hD hS => ?_)
                refine lv_iinc (v := (nI (k93 + 1))) (lv' := [(3, .int (nI (k93 + 1))), (0, .ref h), (1, .ref h2), (2, .int (nI (k61 + 1)))]) hx hb dX0_make_107 hl (k := 3) rfl (nI_1 (k93)) (by decide) rfl (fun ls hl => ?_)
                refine lv_goto (tgt := 93) hx hb dX0_make_110 (by decide) ?_
                have hR9 : sX0_make_93 N wal_10 k61 k93 wwo_93 wfi_93 wni_93 = ((fX0_tryAsking wal_10 wwo_93 wfi_93 wni_93 N (nI (k61 + 1)) (nI k93)).1, (fX0_tryAsking wal_10 wwo_93 wfi_93 wni_93 N (nI (k61 + 1)) (nI k93)).2.1, (fX0_tryAsking wal_10 wwo_93 wfi_93 wni_93 N (nI (k61 + 1)) (nI k93)).2.2) := rfl
                exact ih93 (k93 + 1) hlt93 (by omega) _ _ _ (lp_next hacc93 hR9)  _ _ hP hD hS ls (lv_sub hl [1, 2, 3, 0] rfl)
            exact loop93 (N + 1) 0 (Nat.zero_le _) (by omega) _ _ _ rfl  _ _ hP hD hS ls (lv_sub hl [1, 2, 3, 0] rfl)
        exact loop61 (M + 1) 0 (Nat.zero_le _) (by omega) _ _ _ rfl  _ _ hP hD hS ls (lv_sub hl [1, 2, 0] rfl)
      have hlt10 : k10 < N := (kLt hk10 rfl ha c15)
      refine lv_iconst (v := 0) hx hb dX0_make_18 (by decide) ?_
      refine lv_istore_n (lv' := [(3, .int 0), (0, .ref h), (1, .ref h2), (2, .int (nI k10))]) hx hb dX0_make_19 rfl hl (by decide) rfl (fun ls hl => ?_)
      have hR10 : sX0_make_10 kd pl N k10 wal_10 = (aX0_make_20  (lp (fun k a => sX0_make_20 kd pl N k10 k a) wal_10 N)) := rfl
      have loop20 : ∀ (n k20 : Nat), k20 ≤ N → N + 1 ≤ k20 + n → ∀ (wal_20 : Nat → Int32), lp (fun k a => sX0_make_20 kd pl N k10 k a) wal_10 k20 = wal_20 →  ∀ (H : Heap) (locs : List Loc), va_P D vwCl (wPlSec cI h p1 p2 p3 p4 wal_20 wo fi ni (fX1_answers an) h2 ak ap aw an pn gr kd pl wt) H → va_D A (wPlSec cI h p1 p2 p3 p4 wal_20 wo fi ni (fX1_answers an) h2 ak ap aw an pn gr kd pl wt) → va_S A s.heap H locs → ∀ (ls : Array Slot), lv_has ls 4 [(0, .ref h), (1, .ref h2), (2, .int (nI k10)), (3, .int (nI k20))] → W p l e { frames := 3, cells := 0, slots := 0, locals := 69 } s m ([.ref h, .ref h2] : List Value).toArray below meth c H locs 0 0 Qf (F0 m 20 ls []) := by
        intro n
        induction n with
        | zero => intro k20 h1 h2; exact absurd h2 (by omega)
        | succ n ih =>
          intro k20 hk20 hn20 wal_20 hacc20  H locs hP hD hS ls hl
          have ih20 := ih
          refine lv_iload_n hx hb dX0_make_20 rfl (lv_at hl 3 rfl) ?_
          refine lv_aload_n hx hb dX0_make_21 rfl (lv_at hl 0 rfl) ?_
          refine va_get (D := D) (ci := 0) (v := .int (fX1_answers an)) (C := RX0) (T := TX0) (N := 5) hx hb hts (fun _ h => List.mem_cons_of_mem _ (List.mem_append_left _ (List.mem_append_right _ h))) hown hK.1 hP 0 rfl rfl 4 (by decide) (hts (.fieldLink RX0 34 "LieNights$Plan" "answers" "I") (List.mem_of_getElem? (i := 1) rfl)) (fun _ h9 => h9) rfl dX0_make_22 ?_
          refine lv_icmp_ge (tgt := 53) hx hb dX0_make_25 (by decide) (fun c25 => ?_) (fun c25 => ?_)
          · skip
            have hkN : k20 = N := (kEnd hk20 rfl ha (by omega) c25)
            rw [hkN] at hacc20
            have hR11 : sX0_make_10 kd pl N k10 wal_10 = aX0_make_20  wal_20 := hR10.trans (lp_end (x := wal_20) (g := (fun a => aX0_make_20  a)) hacc20)
            refine lv_iinc (v := (nI (k10 + 1))) (lv' := [(2, .int (nI (k10 + 1))), (0, .ref h), (1, .ref h2), (3, .int (nI k20))]) hx hb dX0_make_53 hl (k := 2) rfl (nI_1 (k10)) (by decide) rfl (fun ls hl => ?_)
            refine lv_goto (tgt := 10) hx hb dX0_make_56 (by decide) ?_
            have hR12 : sX0_make_10 kd pl N k10 wal_10 = wal_20 := hR11.trans rfl
            exact ih10 (k10 + 1) hlt10 (by omega) _ (lp_next hacc10 hR12)  _ _ hP hD hS ls (lv_sub hl [1, 2, 0] rfl)
          have hlt20 : k20 < N := (kLt hk20 rfl ha c25)
          refine lv_aload_n hx hb dX0_make_28 rfl (lv_at hl 0 rfl) ?_
          refine va_get (D := D) (ci := 0) (v := .ref p1) (C := RX0) (T := TX0) (N := 5) hx hb hts (fun _ h => List.mem_cons_of_mem _ (List.mem_append_left _ (List.mem_append_right _ h))) hown hK.1 hP 0 rfl rfl 0 (by decide) (hts (.fieldLink RX0 11 "LieNights$Plan" "alike" "[I") (List.mem_of_getElem? (i := 2) rfl)) (fun _ h9 => h9) rfl dX0_make_29 ?_
          refine lv_iload_n hx hb dX0_make_32 rfl (lv_at hl 2 rfl) ?_
          refine lv_bipush (v := 6) hx hb dX0_make_33 (by decide) ?_
          refine lv_imul hx hb dX0_make_35 ?_
          refine lv_iload_n hx hb dX0_make_36 rfl (lv_at hl 3 rfl) ?_
          refine lv_iadd hx hb dX0_make_37 ?_
          refine lv_aload_n hx hb dX0_make_38 rfl (lv_at hl 1 rfl) ?_
          refine lv_iload_n hx hb dX0_make_39 rfl (lv_at hl 2 rfl) ?_
          refine lv_iload_n hx hb dX0_make_40 rfl (lv_at hl 3 rfl) ?_
          refine kPi (va_runV (As := [.int (nI k10), .int (nI k20)]) (rest := [.int (((nI k10) * 6) + (nI k20)), .ref p1]) ⟨hx, hb, hml, hown, hts⟩ (c_X1_alike l D cI cS h2 ak ap aw an pn gr kd pl wt N (nI k10) (nI k20) ha hN) (cwV 2 hts gX0_make_X1_alike rfl rfl rfl q_X1_alike ⟨Nat.le_of_ble_eq_true rfl, Nat.le_of_ble_eq_true rfl⟩) (kPV hK hP [5, 6, 7, 8] rfl (va_recv hK.1 hP (ci := 1) (q0 := 5) rfl rfl) [.int (nI k10), .int (nI k20)]) rfl rfl hl.1 rfl (lv_room (Nat.le_of_ble_eq_true rfl)) dX0_make_41 ⟨Nat.zero_le _, Nat.zero_le _⟩) ?_
          refine kMv (wl' := (wPlSec cI h p1 p2 p3 p4 (fX3_write 36 wal_20 (((nI k10) * 6) + (nI k20)) (fX1_alike kd pl N (nI k10) (nI k20))) wo fi ni (fX1_answers an) h2 ak ap aw an pn gr kd pl wt)) (wc := (wArr cI p1 36 wal_20)) (w1 := (wArr cI p1 36 (fX3_write 36 wal_20 (((nI k10) * 6) + (nI k20)) (fX1_alike kd pl N (nI k10) (nI k20))))) hP hD hS [1] rfl rfl rfl (va_runSN (As := [.ref p1, .int (((nI k10) * 6) + (nI k20)), .int (fX1_alike kd pl N (nI k10) (nI k20))]) (rest := []) ⟨hx, hb, hml, hown, hts⟩ (c_X3_write l D cI cS p1 36 wal_20 (((nI k10) * 6) + (nI k20)) (fX1_alike kd pl N (nI k10) (nI k20)) (by decide)) ⟨va_cnB 3 hts gX0_make_X3_write_n40 rfl rfl rfl (hK.2.at 8 (q := (RX0, 40, yX3_write, "LieNights")) rfl) (hts _ (List.mem_of_getElem? (i := 26) rfl)) q_X3_write.2 ⟨Nat.le_of_ble_eq_true rfl, Nat.le_of_ble_eq_true rfl⟩, hts _ (List.mem_of_getElem? (i := 28) rfl), trivial⟩ (kMS hK hP hD [1] rfl rfl [.ref p1, .int (((nI k10) * 6) + (nI k20)), .int (fX1_alike kd pl N (nI k10) (nI k20))]) rfl rfl hl.1 rfl (lv_room (Nat.le_of_ble_eq_true rfl)) dX0_make_44 ⟨Nat.zero_le _, Nat.zero_le _⟩) (fun H locs hP hD hS => ?_)
          refine lv_iinc (v := (nI (k20 + 1))) (lv' := [(3, .int (nI (k20 + 1))), (0, .ref h), (1, .ref h2), (2, .int (nI k10))]) hx hb dX0_make_47 hl (k := 3) rfl (nI_1 (k20)) (by decide) rfl (fun ls hl => ?_)
          refine lv_goto (tgt := 20) hx hb dX0_make_50 (by decide) ?_
          have hR13 : sX0_make_20 kd pl N k10 k20 wal_20 = (fX3_write 36 wal_20 (((nI k10) * 6) + (nI k20)) (fX1_alike kd pl N (nI k10) (nI k20))) := rfl
          exact ih20 (k20 + 1) hlt20 (by omega) _ (lp_next hacc20 hR13)  _ _ hP hD hS ls (lv_sub hl [1, 2, 3, 0] rfl)
      exact loop20 (N + 1) 0 (Nat.zero_le _) (by omega) _ rfl  _ _ hP hD hS ls (lv_sub hl [1, 2, 3, 0] rfl)
  exact loop10 (N + 1) 0 (Nat.zero_le _) (by omega) _ rfl  _ _ hP hD hS ls (lv_sub hl [1, 2, 0] rfl)
