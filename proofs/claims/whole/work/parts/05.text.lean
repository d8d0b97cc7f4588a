def fX1_isDigit (co : Int32) : Int32 := (if co < 48 then 0 else (if (57 : Int32) < co then 0 else 1))
theorem q_X1_isDigit : yX1_isDigit.cls = RX1 ∧ yX1_isDigit.cls ≠ "java/lang/invoke/MethodHandle" ∧ yX1_isDigit.cls ≠ "java/lang/invoke/VarHandle" ∧ (parseMethodDescriptor yX1_isDigit.desc).map (fun d => d.parameters.length) = some 1 := by decide +kernel
set_option maxHeartbeats 4000000 in
set_option maxRecDepth 100000 in
theorem c_X1_isDigit (l : Launch) (D : va_G) (cI cS : ClassId) (co : Int32)  : PMi l yX1_isDigit wsX1_isDigit { frames := 0, cells := 0, slots := 0, locals := 0 } D cI cS [] [.int co] (fX1_isDigit co) := by
  refine kEnter (cc := cX1_isDigit) (maxL := 1) (ret := (some .boolean)) (by decide) rfl (Nat.le_of_ble_eq_true rfl) ?_
  intro p e s m below meth c ls Qf hQ hx hb hml hr hlocks hown hts hK hP hl
  have hown : s.vm.findClass RX1 = some m.cls := hown
  have hl : lv_has ls 1 [(0, .int co)] := hl
  refine lv_iload_n hx hb dX1_isDigit_0 rfl (lv_at hl 0 rfl) ?_
  refine lv_bipush (v := 48) hx hb dX1_isDigit_1 (by decide) ?_
  refine lv_icmp_lt (tgt := 16) hx hb dX1_isDigit_3 (by decide) (fun c3 => ?_) (fun c3 => ?_)
  · skip
    refine lv_iconst (v := 0) hx hb dX1_isDigit_16 (by decide) ?_
    have hR1 : (fX1_isDigit co) = 0 := (by unfold fX1_isDigit; rw [if_pos c3])
    rw [hQ]
    exact W.zret (v := 0) (ty := .boolean) hx hb hr rfl (fun t ht hW => ⟨_, rfl, hR1.symm, ht⟩) (fun q h => by cases h) dX1_isDigit_17
  refine lv_iload_n hx hb dX1_isDigit_6 rfl (lv_at hl 0 rfl) ?_
  refine lv_bipush (v := 57) hx hb dX1_isDigit_7 (by decide) ?_
  refine lv_icmp_gt (tgt := 16) hx hb dX1_isDigit_9 (by decide) (fun c9 => ?_) (fun c9 => ?_)
  · skip
    refine lv_iconst (v := 0) hx hb dX1_isDigit_16 (by decide) ?_
    have hR2 : (fX1_isDigit co) = 0 := (by unfold fX1_isDigit; rw [if_neg c3, if_pos c9])
    rw [hQ]
    exact W.zret (v := 0) (ty := .boolean) hx hb hr rfl (fun t ht hW => ⟨_, rfl, hR2.symm, ht⟩) (fun q h => by cases h) dX1_isDigit_17
  refine lv_iconst (v := 1) hx hb dX1_isDigit_12 (by decide) ?_
  refine lv_goto (tgt := 17) hx hb dX1_isDigit_13 (by decide) ?_
  have hR3 : (fX1_isDigit co) = 1 := (by unfold fX1_isDigit; rw [if_neg c3, if_neg c9])
  rw [hQ]
  exact W.zret (v := 1) (ty := .boolean) hx hb hr rfl (fun t ht hW => ⟨_, rfl, hR3.symm, ht⟩) (fun q h => by cases h) dX1_isDigit_17

def fX1_kindByLetter (co : Int32) : Int32 := (if co = 112 then 0 else (if co = 115 then 1 else (if co = 118 then 2 else (-9))))
theorem q_X1_kindByLetter : yX1_kindByLetter.cls = RX1 ∧ yX1_kindByLetter.cls ≠ "java/lang/invoke/MethodHandle" ∧ yX1_kindByLetter.cls ≠ "java/lang/invoke/VarHandle" ∧ (parseMethodDescriptor yX1_kindByLetter.desc).map (fun d => d.parameters.length) = some 1 := by decide +kernel
set_option maxHeartbeats 4000000 in
set_option maxRecDepth 100000 in
theorem c_X1_kindByLetter (l : Launch) (D : va_G) (cI cS : ClassId) (co : Int32)  : PMi l yX1_kindByLetter wsX1_kindByLetter { frames := 0, cells := 0, slots := 0, locals := 0 } D cI cS [] [.int co] (fX1_kindByLetter co) := by
  refine kEnter (cc := cX1_kindByLetter) (maxL := 1) (ret := (some .int)) (by decide) rfl (Nat.le_of_ble_eq_true rfl) ?_
  intro p e s m below meth c ls Qf hQ hx hb hml hr hlocks hown hts hK hP hl
  have hown : s.vm.findClass RX1 = some m.cls := hown
  have hl : lv_has ls 1 [(0, .int co)] := hl
  refine lv_iload_n hx hb dX1_kindByLetter_0 rfl (lv_at hl 0 rfl) ?_
  by_cases c1_112 : co = 112
  · skip
    refine lv_lookup (tgt := 36) (off := 35) hx hb dX1_kindByLetter_1 (by decide) (by rw [c1_112]; decide) (by decide) ?_
    refine lv_iconst (v := 0) hx hb dX1_kindByLetter_36 (by decide) ?_
    have hR1 : (fX1_kindByLetter co) = 0 := (by unfold fX1_kindByLetter; rw [if_pos c1_112])
    rw [hQ]
    exact W.iret (v := 0) hx hb hr (fun t ht hW => ⟨_, rfl, hR1.symm, ht⟩) (fun q h => by cases h) dX1_kindByLetter_37
  by_cases c1_115 : co = 115
  · skip
    refine lv_lookup (tgt := 38) (off := 37) hx hb dX1_kindByLetter_1 (by decide) (by rw [c1_115]; decide) (by decide) ?_
    refine lv_iconst (v := 1) hx hb dX1_kindByLetter_38 (by decide) ?_
    have hR2 : (fX1_kindByLetter co) = 1 := (by unfold fX1_kindByLetter; rw [if_neg c1_112, if_pos c1_115])
    rw [hQ]
    exact W.iret (v := 1) hx hb hr (fun t ht hW => ⟨_, rfl, hR2.symm, ht⟩) (fun q h => by cases h) dX1_kindByLetter_39
  by_cases c1_118 : co = 118
  · skip
    refine lv_lookup (tgt := 40) (off := 39) hx hb dX1_kindByLetter_1 (by decide) (by rw [c1_118]; decide) (by decide) ?_
    refine lv_iconst (v := 2) hx hb dX1_kindByLetter_40 (by decide) ?_
    have hR3 : (fX1_kindByLetter co) = 2 := (by unfold fX1_kindByLetter; rw [if_neg c1_112, if_neg c1_115, if_pos c1_118])
    rw [hQ]
    exact W.iret (v := 2) hx hb hr (fun t ht hW => ⟨_, rfl, hR3.symm, ht⟩) (fun q h => by cases h) dX1_kindByLetter_41
  refine lv_lookup (tgt := 42) (off := 41) hx hb dX1_kindByLetter_1 (by decide) (by rw [lv_osw (k := 112) (a := 112) c1_112 rfl, lv_osw (k := 115) (a := 115) c1_115 rfl, lv_osw (k := 118) (a := 118) c1_118 rfl]; rfl) (by decide) ?_
  refine lv_bipush (v := (-9)) hx hb dX1_kindByLetter_42 (by decide) ?_
  have hR4 : (fX1_kindByLetter co) = (-9) := (by unfold fX1_kindByLetter; rw [if_neg c1_112, if_neg c1_115, if_neg c1_118])
  rw [hQ]
  exact W.iret (v := (-9)) hx hb hr (fun t ht hW => ⟨_, rfl, hR4.symm, ht⟩) (fun q h => by cases h) dX1_kindByLetter_44

def fX1_takeKind (an : Int32) (kd : Nat → Int32) (ki : Int32) : Int32 × (Nat → Int32) := (if ki = (-9) then ((-1), kd) else (3, (fX3_write 6 kd an ki)))
theorem q_X1_takeKind : yX1_takeKind.cls = RX1 ∧ yX1_takeKind.cls ≠ "java/lang/invoke/MethodHandle" ∧ yX1_takeKind.cls ≠ "java/lang/invoke/VarHandle" ∧ (parseMethodDescriptor yX1_takeKind.desc).map (fun d => d.parameters.length) = some 1 := by decide +kernel
set_option maxHeartbeats 4000000 in
set_option maxRecDepth 100000 in
theorem c_X1_takeKind (l : Launch) (D : va_G) (cI cS : ClassId) (h ak ap aw : Nat) (an pn gr : Int32) (kd pl wt : Nat → Int32) (ki : Int32)  : MMi l yX1_takeKind wsX1_takeKind { frames := 1, cells := 0, slots := 0, locals := 22 } D cI cS (wSec cI h ak ap aw an pn gr kd pl wt) [.ref h, .int ki] ((fX1_takeKind an kd ki).1) (wSec cI h ak ap aw an pn gr ((fX1_takeKind an kd ki).2) pl wt) := by
  refine kEnterM (cc := cX1_takeKind) (maxL := 2) (ret := (some .int)) (by decide) rfl (Nat.le_of_ble_eq_true rfl) ?_
  intro p e s m below meth c ls Qf hQ hx hb hml hr hlocks hown hts hK hP hD hS hl
  have hown : s.vm.findClass RX1 = some m.cls := hown
  have hl : lv_has ls 2 [(0, .ref h), (1, .int ki)] := hl
  generalize kA (wSec cI h ak ap aw an pn gr kd pl wt) = A at hQ hD hS
  refine lv_iload_n hx hb dX1_takeKind_0 rfl (lv_at hl 1 rfl) ?_
  refine lv_bipush (v := (-9)) hx hb dX1_takeKind_1 (by decide) ?_
  refine lv_icmp_ne (tgt := 8) hx hb dX1_takeKind_3 (by decide) (fun c3 => ?_) (fun c3 => ?_)
  · skip
    refine lv_aload_n hx hb dX1_takeKind_8 rfl (lv_at hl 0 rfl) ?_
    refine va_get (D := D) (ci := 1) (v := .ref ak) (C := RX1) (T := TX1) (N := 6) hx hb hts (fun _ h => List.mem_cons_of_mem _ (List.mem_append_right _ h)) hown hK.1 hP 0 rfl rfl 0 (by decide) (hts (.fieldLink RX1 11 "LieNights$Secret" "kinds" "[I") (List.mem_of_getElem? (i := 1) rfl)) (fun _ h9 => h9) rfl dX1_takeKind_9 ?_
    refine lv_aload_n hx hb dX1_takeKind_12 rfl (lv_at hl 0 rfl) ?_
    refine va_get (D := D) (ci := 1) (v := .int an) (C := RX1) (T := TX1) (N := 6) hx hb hts (fun _ h => List.mem_cons_of_mem _ (List.mem_append_right _ h)) hown hK.1 hP 0 rfl rfl 3 (by decide) (hts (.fieldLink RX1 21 "LieNights$Secret" "answers" "I") (List.mem_of_getElem? (i := 2) rfl)) (fun _ h9 => h9) rfl dX1_takeKind_13 ?_
    refine lv_iload_n hx hb dX1_takeKind_16 rfl (lv_at hl 1 rfl) ?_
    refine kMv (wl' := (wSec cI h ak ap aw an pn gr (fX3_write 6 kd an ki) pl wt)) (wc := (wArr cI ak 6 kd)) (w1 := (wArr cI ak 6 (fX3_write 6 kd an ki))) hP hD hS [1] rfl rfl rfl (va_runSN (As := [.ref ak, .int an, .int ki]) (rest := []) ⟨hx, hb, hml, hown, hts⟩ (c_X3_write l D cI cS ak 6 kd an ki (by decide)) ⟨va_cnB 3 hts gX1_takeKind_X3_write_n35 rfl rfl rfl (hK.2.at 6 (q := (RX1, 35, yX3_write, "LieNights")) rfl) (hts _ (List.mem_of_getElem? (i := 4) rfl)) q_X3_write.2 ⟨Nat.le_of_ble_eq_true rfl, Nat.le_of_ble_eq_true rfl⟩, hts _ (List.mem_of_getElem? (i := 3) rfl), trivial⟩ (kMS hK hP hD [1] rfl rfl [.ref ak, .int an, .int ki]) rfl rfl hl.1 rfl (lv_room (Nat.le_of_ble_eq_true rfl)) dX1_takeKind_17 ⟨Nat.zero_le _, Nat.zero_le _⟩) (fun H locs hP hD hS => ?_)
    refine lv_iconst (v := 3) hx hb dX1_takeKind_20 (by decide) ?_
    have hR1 : (fX1_takeKind an kd ki) = (3, (fX3_write 6 kd an ki)) := (by unfold fX1_takeKind; rw [if_neg c3])
    rw [hQ]
    exact W.iret (v := 3) hx hb hr (fun t ht hW => ⟨⟨_, (), rfl, (by show _ = _; rw [hR1]), (by show va_P D vwCl _ t.heap; rw [hR1, ht]; exact hP)⟩, hS.F ht⟩) hS.2.2 dX1_takeKind_21
  refine lv_iconst (v := (-1)) hx hb dX1_takeKind_6 (by decide) ?_
  have hR2 : (fX1_takeKind an kd ki) = ((-1), kd) := (by unfold fX1_takeKind; rw [if_pos c3])
  rw [hQ]
  exact W.iret (v := (-1)) hx hb hr (fun t ht hW => ⟨⟨_, (), rfl, (by show _ = _; rw [hR2]), (by show va_P D vwCl _ t.heap; rw [hR2, ht]; exact hP)⟩, hS.F ht⟩) hS.2.2 dX1_takeKind_7

def fX1_takePlace (an : Int32) (pl : Nat → Int32) (co : Int32) : Int32 × Int32 × (Nat → Int32) := (if (fX1_isDigit co) = 0 then ((-1), an, pl) else (1, (an + 1), (fX3_write 6 pl an (co - 48))))
theorem q_X1_takePlace : yX1_takePlace.cls = RX1 ∧ yX1_takePlace.cls ≠ "java/lang/invoke/MethodHandle" ∧ yX1_takePlace.cls ≠ "java/lang/invoke/VarHandle" ∧ (parseMethodDescriptor yX1_takePlace.desc).map (fun d => d.parameters.length) = some 1 := by decide +kernel
set_option maxHeartbeats 4000000 in
set_option maxRecDepth 100000 in
theorem c_X1_takePlace (l : Launch) (D : va_G) (cI cS : ClassId) (h ak ap aw : Nat) (an pn gr : Int32) (kd pl wt : Nat → Int32) (co : Int32)  : MMi l yX1_takePlace wsX1_takePlace { frames := 1, cells := 0, slots := 0, locals := 22 } D cI cS (wSec cI h ak ap aw an pn gr kd pl wt) [.ref h, .int co] ((fX1_takePlace an pl co).1) (wSec cI h ak ap aw ((fX1_takePlace an pl co).2.1) pn gr kd ((fX1_takePlace an pl co).2.2) wt) := by
  refine kEnterM (cc := cX1_takePlace) (maxL := 2) (ret := (some .int)) (by decide) rfl (Nat.le_of_ble_eq_true rfl) ?_
  intro p e s m below meth c ls Qf hQ hx hb hml hr hlocks hown hts hK hP hD hS hl
  have hown : s.vm.findClass RX1 = some m.cls := hown
  have hl : lv_has ls 2 [(0, .ref h), (1, .int co)] := hl
  generalize kA (wSec cI h ak ap aw an pn gr kd pl wt) = A at hQ hD hS
  refine lv_iload_n hx hb dX1_takePlace_0 rfl (lv_at hl 1 rfl) ?_
  refine kPi (va_runS (As := [.int co]) (rest := []) ⟨hx, hb, hml, hown, hts⟩ (c_X1_isDigit l D cI cS co) (va_cwS 1 hts gX1_takePlace_X1_isDigit rfl rfl rfl q_X1_isDigit.2 ⟨Nat.le_of_ble_eq_true rfl, Nat.le_of_ble_eq_true rfl⟩) (kPS hK hP [] rfl [.int co]) rfl rfl hl.1 rfl (lv_room (Nat.le_of_ble_eq_true rfl)) dX1_takePlace_1 ⟨Nat.zero_le _, Nat.zero_le _⟩) ?_
  refine lv_if_ne (tgt := 9) hx hb dX1_takePlace_4 (by decide) (fun c4 => ?_) (fun c4 => ?_)
  · skip
    refine lv_aload_n hx hb dX1_takePlace_9 rfl (lv_at hl 0 rfl) ?_
    refine va_get (D := D) (ci := 1) (v := .ref ap) (C := RX1) (T := TX1) (N := 6) hx hb hts (fun _ h => List.mem_cons_of_mem _ (List.mem_append_right _ h)) hown hK.1 hP 0 rfl rfl 1 (by decide) (hts (.fieldLink RX1 15 "LieNights$Secret" "places" "[I") (List.mem_of_getElem? (i := 1) rfl)) (fun _ h9 => h9) rfl dX1_takePlace_10 ?_
    refine lv_aload_n hx hb dX1_takePlace_13 rfl (lv_at hl 0 rfl) ?_
    refine va_get (D := D) (ci := 1) (v := .int an) (C := RX1) (T := TX1) (N := 6) hx hb hts (fun _ h => List.mem_cons_of_mem _ (List.mem_append_right _ h)) hown hK.1 hP 0 rfl rfl 3 (by decide) (hts (.fieldLink RX1 21 "LieNights$Secret" "answers" "I") (List.mem_of_getElem? (i := 2) rfl)) (fun _ h9 => h9) rfl dX1_takePlace_14 ?_
    refine lv_iload_n hx hb dX1_takePlace_17 rfl (lv_at hl 1 rfl) ?_
    refine lv_bipush (v := 48) hx hb dX1_takePlace_18 (by decide) ?_
    refine lv_isub hx hb dX1_takePlace_20 ?_
    refine kMv (wl' := (wSec cI h ak ap aw an pn gr kd (fX3_write 6 pl an (co - 48)) wt)) (wc := (wArr cI ap 6 pl)) (w1 := (wArr cI ap 6 (fX3_write 6 pl an (co - 48)))) hP hD hS [2] rfl rfl rfl (va_runSN (As := [.ref ap, .int an, .int (co - 48)]) (rest := []) ⟨hx, hb, hml, hown, hts⟩ (c_X3_write l D cI cS ap 6 pl an (co - 48) (by decide)) ⟨va_cnB 3 hts gX1_takePlace_X3_write_n35 rfl rfl rfl (hK.2.at 6 (q := (RX1, 35, yX3_write, "LieNights")) rfl) (hts _ (List.mem_of_getElem? (i := 8) rfl)) q_X3_write.2 ⟨Nat.le_of_ble_eq_true rfl, Nat.le_of_ble_eq_true rfl⟩, hts _ (List.mem_of_getElem? (i := 7) rfl), trivial⟩ (kMS hK hP hD [2] rfl rfl [.ref ap, .int an, .int (co - 48)]) rfl rfl hl.1 rfl (lv_room (Nat.le_of_ble_eq_true rfl)) dX1_takePlace_21 ⟨Nat.zero_le _, Nat.zero_le _⟩) (fun H locs hP hD hS => ?_)
    refine lv_aload_n hx hb dX1_takePlace_24 rfl (lv_at hl 0 rfl) ?_
    refine lv_dup hx hb dX1_takePlace_25 rfl ?_
    refine va_get (D := D) (ci := 1) (v := .int an) (C := RX1) (T := TX1) (N := 6) hx hb hts (fun _ h => List.mem_cons_of_mem _ (List.mem_append_right _ h)) hown hK.1 hP 0 rfl rfl 3 (by decide) (hts (.fieldLink RX1 21 "LieNights$Secret" "answers" "I") (List.mem_of_getElem? (i := 2) rfl)) (fun _ h9 => h9) rfl dX1_takePlace_26 ?_
    refine lv_iconst (v := 1) hx hb dX1_takePlace_29 (by decide) ?_
    refine lv_iadd hx hb dX1_takePlace_30 ?_
    refine va_put (D := D) (ci := 1) (v := .int (an + 1)) (ty := tyX1 3) (C := RX1) (T := TX1) (N := 6) hx hb hts (fun _ h => List.mem_cons_of_mem _ (List.mem_append_right _ h)) tyX1 tyX1_ok nmX1 hown hK.1 hP hD hS 0 rfl rfl 3 (by decide) (hts (.fieldLink RX1 21 "LieNights$Secret" "answers" "I") (List.mem_of_getElem? (i := 2) rfl)) (fun _ h9 => h9) rfl (tyX1_ok 3 (by decide)) rfl rfl (Nat.le_of_ble_eq_true rfl) dX1_takePlace_31 (fun H locs hP hD hS => ?_)
    have hP : va_P D vwCl (wSec cI h ak ap aw (an + 1) pn gr kd (fX3_write 6 pl an (co - 48)) wt) H := hP
    have hD : va_D A (wSec cI h ak ap aw (an + 1) pn gr kd (fX3_write 6 pl an (co - 48)) wt) := hD
    refine lv_iconst (v := 1) hx hb dX1_takePlace_34 (by decide) ?_
    have hR1 : (fX1_takePlace an pl co) = (1, (an + 1), (fX3_write 6 pl an (co - 48))) := (by unfold fX1_takePlace; rw [if_neg c4])
    rw [hQ]
    exact W.iret (v := 1) hx hb hr (fun t ht hW => ⟨⟨_, (), rfl, (by show _ = _; rw [hR1]), (by show va_P D vwCl _ t.heap; rw [hR1, ht]; exact hP)⟩, hS.F ht⟩) hS.2.2 dX1_takePlace_35
  refine lv_iconst (v := (-1)) hx hb dX1_takePlace_7 (by decide) ?_
  have hR2 : (fX1_takePlace an pl co) = ((-1), an, pl) := (by unfold fX1_takePlace; rw [if_pos c4])
  rw [hQ]
  exact W.iret (v := (-1)) hx hb hr (fun t ht hW => ⟨⟨_, (), rfl, (by show _ = _; rw [hR2]), (by show va_P D vwCl _ t.heap; rw [hR2, ht]; exact hP)⟩, hS.F ht⟩) hS.2.2 dX1_takePlace_8

def fX1_takeGrowth (gr co : Int32) : Int32 × Int32 := (if (fX1_isDigit co) = 0 then ((-1), gr) else (5, (co - 48)))
theorem q_X1_takeGrowth : yX1_takeGrowth.cls = RX1 ∧ yX1_takeGrowth.cls ≠ "java/lang/invoke/MethodHandle" ∧ yX1_takeGrowth.cls ≠ "java/lang/invoke/VarHandle" ∧ (parseMethodDescriptor yX1_takeGrowth.desc).map (fun d => d.parameters.length) = some 1 := by decide +kernel
set_option maxHeartbeats 4000000 in
set_option maxRecDepth 100000 in
theorem c_X1_takeGrowth (l : Launch) (D : va_G) (cI cS : ClassId) (h ak ap aw : Nat) (an pn gr : Int32) (kd pl wt : Nat → Int32) (co : Int32)  : MMi l yX1_takeGrowth wsX1_takeGrowth { frames := 1, cells := 0, slots := 0, locals := 20 } D cI cS (wSec cI h ak ap aw an pn gr kd pl wt) [.ref h, .int co] ((fX1_takeGrowth gr co).1) (wSec cI h ak ap aw an pn ((fX1_takeGrowth gr co).2) kd pl wt) := by
  refine kEnterM (cc := cX1_takeGrowth) (maxL := 2) (ret := (some .int)) (by decide) rfl (Nat.le_of_ble_eq_true rfl) ?_
  intro p e s m below meth c ls Qf hQ hx hb hml hr hlocks hown hts hK hP hD hS hl
  have hown : s.vm.findClass RX1 = some m.cls := hown
  have hl : lv_has ls 2 [(0, .ref h), (1, .int co)] := hl
  generalize kA (wSec cI h ak ap aw an pn gr kd pl wt) = A at hQ hD hS
  refine lv_iload_n hx hb dX1_takeGrowth_0 rfl (lv_at hl 1 rfl) ?_
  refine kPi (va_runS (As := [.int co]) (rest := []) ⟨hx, hb, hml, hown, hts⟩ (c_X1_isDigit l D cI cS co) (va_cwS 1 hts gX1_takeGrowth_X1_isDigit rfl rfl rfl q_X1_isDigit.2 ⟨Nat.le_of_ble_eq_true rfl, Nat.le_of_ble_eq_true rfl⟩) (kPS hK hP [] rfl [.int co]) rfl rfl hl.1 rfl (lv_room (Nat.le_of_ble_eq_true rfl)) dX1_takeGrowth_1 ⟨Nat.zero_le _, Nat.zero_le _⟩) ?_
  refine lv_if_ne (tgt := 9) hx hb dX1_takeGrowth_4 (by decide) (fun c4 => ?_) (fun c4 => ?_)
  · skip
    refine lv_aload_n hx hb dX1_takeGrowth_9 rfl (lv_at hl 0 rfl) ?_
    refine lv_iload_n hx hb dX1_takeGrowth_10 rfl (lv_at hl 1 rfl) ?_
    refine lv_bipush (v := 48) hx hb dX1_takeGrowth_11 (by decide) ?_
    refine lv_isub hx hb dX1_takeGrowth_13 ?_
    refine va_put (D := D) (ci := 1) (v := .int (co - 48)) (ty := tyX1 5) (C := RX1) (T := TX1) (N := 6) hx hb hts (fun _ h => List.mem_cons_of_mem _ (List.mem_append_right _ h)) tyX1 tyX1_ok nmX1 hown hK.1 hP hD hS 0 rfl rfl 5 (by decide) (hts (.fieldLink RX1 28 "LieNights$Secret" "growth" "I") (List.mem_of_getElem? (i := 1) rfl)) (fun _ h9 => h9) rfl (tyX1_ok 5 (by decide)) rfl rfl (Nat.le_of_ble_eq_true rfl) dX1_takeGrowth_14 (fun H locs hP hD hS => ?_)
    have hP : va_P D vwCl (wSec cI h ak ap aw an pn (co - 48) kd pl wt) H := hP
    have hD : va_D A (wSec cI h ak ap aw an pn (co - 48) kd pl wt) := hD
    refine lv_iconst (v := 5) hx hb dX1_takeGrowth_17 (by decide) ?_
    have hR1 : (fX1_takeGrowth gr co) = (5, (co - 48)) := (by unfold fX1_takeGrowth; rw [if_neg c4])
    rw [hQ]
    exact W.iret (v := 5) hx hb hr (fun t ht hW => ⟨⟨_, (), rfl, (by show _ = _; rw [hR1]), (by show va_P D vwCl _ t.heap; rw [hR1, ht]; exact hP)⟩, hS.F ht⟩) hS.2.2 dX1_takeGrowth_18
  refine lv_iconst (v := (-1)) hx hb dX1_takeGrowth_7 (by decide) ?_
  have hR2 : (fX1_takeGrowth gr co) = ((-1), gr) := (by unfold fX1_takeGrowth; rw [if_pos c4])
  rw [hQ]
  exact W.iret (v := (-1)) hx hb hr (fun t ht hW => ⟨⟨_, (), rfl, (by show _ = _; rw [hR2]), (by show va_P D vwCl _ t.heap; rw [hR2, ht]; exact hP)⟩, hS.F ht⟩) hS.2.2 dX1_takeGrowth_8

def fX1_takeWeight (pn : Int32) (wt : Nat → Int32) (co : Int32) : Int32 × Int32 × (Nat → Int32) := (if (fX1_isDigit co) = 0 then ((-1), pn, wt) else (if co = 48 then ((-1), pn, wt) else (5, (pn + 1), (fX3_write 5 wt pn (co - 48)))))
theorem q_X1_takeWeight : yX1_takeWeight.cls = RX1 ∧ yX1_takeWeight.cls ≠ "java/lang/invoke/MethodHandle" ∧ yX1_takeWeight.cls ≠ "java/lang/invoke/VarHandle" ∧ (parseMethodDescriptor yX1_takeWeight.desc).map (fun d => d.parameters.length) = some 1 := by decide +kernel
set_option maxHeartbeats 4000000 in
set_option maxRecDepth 100000 in
theorem c_X1_takeWeight (l : Launch) (D : va_G) (cI cS : ClassId) (h ak ap aw : Nat) (an pn gr : Int32) (kd pl wt : Nat → Int32) (co : Int32)  : MMi l yX1_takeWeight wsX1_takeWeight { frames := 1, cells := 0, slots := 0, locals := 22 } D cI cS (wSec cI h ak ap aw an pn gr kd pl wt) [.ref h, .int co] ((fX1_takeWeight pn wt co).1) (wSec cI h ak ap aw an ((fX1_takeWeight pn wt co).2.1) gr kd pl ((fX1_takeWeight pn wt co).2.2)) := by
  refine kEnterM (cc := cX1_takeWeight) (maxL := 2) (ret := (some .int)) (by decide) rfl (Nat.le_of_ble_eq_true rfl) ?_
  intro p e s m below meth c ls Qf hQ hx hb hml hr hlocks hown hts hK hP hD hS hl
  have hown : s.vm.findClass RX1 = some m.cls := hown
  have hl : lv_has ls 2 [(0, .ref h), (1, .int co)] := hl
  generalize kA (wSec cI h ak ap aw an pn gr kd pl wt) = A at hQ hD hS
  refine lv_iload_n hx hb dX1_takeWeight_0 rfl (lv_at hl 1 rfl) ?_
  refine kPi (va_runS (As := [.int co]) (rest := []) ⟨hx, hb, hml, hown, hts⟩ (c_X1_isDigit l D cI cS co) (va_cwS 1 hts gX1_takeWeight_X1_isDigit rfl rfl rfl q_X1_isDigit.2 ⟨Nat.le_of_ble_eq_true rfl, Nat.le_of_ble_eq_true rfl⟩) (kPS hK hP [] rfl [.int co]) rfl rfl hl.1 rfl (lv_room (Nat.le_of_ble_eq_true rfl)) dX1_takeWeight_1 ⟨Nat.zero_le _, Nat.zero_le _⟩) ?_
  refine lv_if_eq (tgt := 13) hx hb dX1_takeWeight_4 (by decide) (fun c4 => ?_) (fun c4 => ?_)
  · skip
    refine lv_iconst (v := (-1)) hx hb dX1_takeWeight_13 (by decide) ?_
    have hR1 : (fX1_takeWeight pn wt co) = ((-1), pn, wt) := (by unfold fX1_takeWeight; rw [if_pos c4])
    rw [hQ]
    exact W.iret (v := (-1)) hx hb hr (fun t ht hW => ⟨⟨_, (), rfl, (by show _ = _; rw [hR1]), (by show va_P D vwCl _ t.heap; rw [hR1, ht]; exact hP)⟩, hS.F ht⟩) hS.2.2 dX1_takeWeight_14
  refine lv_iload_n hx hb dX1_takeWeight_7 rfl (lv_at hl 1 rfl) ?_
  refine lv_bipush (v := 48) hx hb dX1_takeWeight_8 (by decide) ?_
  refine lv_icmp_ne (tgt := 15) hx hb dX1_takeWeight_10 (by decide) (fun c10 => ?_) (fun c10 => ?_)
  · skip
    refine lv_aload_n hx hb dX1_takeWeight_15 rfl (lv_at hl 0 rfl) ?_
    refine va_get (D := D) (ci := 1) (v := .ref aw) (C := RX1) (T := TX1) (N := 6) hx hb hts (fun _ h => List.mem_cons_of_mem _ (List.mem_append_right _ h)) hown hK.1 hP 0 rfl rfl 2 (by decide) (hts (.fieldLink RX1 18 "LieNights$Secret" "weights" "[I") (List.mem_of_getElem? (i := 1) rfl)) (fun _ h9 => h9) rfl dX1_takeWeight_16 ?_
    refine lv_aload_n hx hb dX1_takeWeight_19 rfl (lv_at hl 0 rfl) ?_
    refine va_get (D := D) (ci := 1) (v := .int pn) (C := RX1) (T := TX1) (N := 6) hx hb hts (fun _ h => List.mem_cons_of_mem _ (List.mem_append_right _ h)) hown hK.1 hP 0 rfl rfl 4 (by decide) (hts (.fieldLink RX1 25 "LieNights$Secret" "pillars" "I") (List.mem_of_getElem? (i := 2) rfl)) (fun _ h9 => h9) rfl dX1_takeWeight_20 ?_
    refine lv_iload_n hx hb dX1_takeWeight_23 rfl (lv_at hl 1 rfl) ?_
    refine lv_bipush (v := 48) hx hb dX1_takeWeight_24 (by decide) ?_
    refine lv_isub hx hb dX1_takeWeight_26 ?_
    refine kMv (wl' := (wSec cI h ak ap aw an pn gr kd pl (fX3_write 5 wt pn (co - 48)))) (wc := (wArr cI aw 5 wt)) (w1 := (wArr cI aw 5 (fX3_write 5 wt pn (co - 48)))) hP hD hS [3] rfl rfl rfl (va_runSN (As := [.ref aw, .int pn, .int (co - 48)]) (rest := []) ⟨hx, hb, hml, hown, hts⟩ (c_X3_write l D cI cS aw 5 wt pn (co - 48) (by decide)) ⟨va_cnB 3 hts gX1_takeWeight_X3_write_n35 rfl rfl rfl (hK.2.at 6 (q := (RX1, 35, yX3_write, "LieNights")) rfl) (hts _ (List.mem_of_getElem? (i := 8) rfl)) q_X3_write.2 ⟨Nat.le_of_ble_eq_true rfl, Nat.le_of_ble_eq_true rfl⟩, hts _ (List.mem_of_getElem? (i := 7) rfl), trivial⟩ (kMS hK hP hD [3] rfl rfl [.ref aw, .int pn, .int (co - 48)]) rfl rfl hl.1 rfl (lv_room (Nat.le_of_ble_eq_true rfl)) dX1_takeWeight_27 ⟨Nat.zero_le _, Nat.zero_le _⟩) (fun H locs hP hD hS => ?_)
    refine lv_aload_n hx hb dX1_takeWeight_30 rfl (lv_at hl 0 rfl) ?_
    refine lv_dup hx hb dX1_takeWeight_31 rfl ?_
    refine va_get (D := D) (ci := 1) (v := .int pn) (C := RX1) (T := TX1) (N := 6) hx hb hts (fun _ h => List.mem_cons_of_mem _ (List.mem_append_right _ h)) hown hK.1 hP 0 rfl rfl 4 (by decide) (hts (.fieldLink RX1 25 "LieNights$Secret" "pillars" "I") (List.mem_of_getElem? (i := 2) rfl)) (fun _ h9 => h9) rfl dX1_takeWeight_32 ?_
    refine lv_iconst (v := 1) hx hb dX1_takeWeight_35 (by decide) ?_
    refine lv_iadd hx hb dX1_takeWeight_36 ?_
    refine va_put (D := D) (ci := 1) (v := .int (pn + 1)) (ty := tyX1 4) (C := RX1) (T := TX1) (N := 6) hx hb hts (fun _ h => List.mem_cons_of_mem _ (List.mem_append_right _ h)) tyX1 tyX1_ok nmX1 hown hK.1 hP hD hS 0 rfl rfl 4 (by decide) (hts (.fieldLink RX1 25 "LieNights$Secret" "pillars" "I") (List.mem_of_getElem? (i := 2) rfl)) (fun _ h9 => h9) rfl (tyX1_ok 4 (by decide)) rfl rfl (Nat.le_of_ble_eq_true rfl) dX1_takeWeight_37 (fun H locs hP hD hS => ?_)
    have hP : va_P D vwCl (wSec cI h ak ap aw an (pn + 1) gr kd pl (fX3_write 5 wt pn (co - 48))) H := hP
    have hD : va_D A (wSec cI h ak ap aw an (pn + 1) gr kd pl (fX3_write 5 wt pn (co - 48))) := hD
    refine lv_iconst (v := 5) hx hb dX1_takeWeight_40 (by decide) ?_
    have hR2 : (fX1_takeWeight pn wt co) = (5, (pn + 1), (fX3_write 5 wt pn (co - 48))) := (by unfold fX1_takeWeight; rw [if_neg c4, if_neg c10])
    rw [hQ]
    exact W.iret (v := 5) hx hb hr (fun t ht hW => ⟨⟨_, (), rfl, (by show _ = _; rw [hR2]), (by show va_P D vwCl _ t.heap; rw [hR2, ht]; exact hP)⟩, hS.F ht⟩) hS.2.2 dX1_takeWeight_41
  refine lv_iconst (v := (-1)) hx hb dX1_takeWeight_13 (by decide) ?_
  have hR3 : (fX1_takeWeight pn wt co) = ((-1), pn, wt) := (by unfold fX1_takeWeight; rw [if_neg c4, if_pos c10])
  rw [hQ]
  exact W.iret (v := (-1)) hx hb hr (fun t ht hW => ⟨⟨_, (), rfl, (by show _ = _; rw [hR3]), (by show va_P D vwCl _ t.heap; rw [hR3, ht]; exact hP)⟩, hS.F ht⟩) hS.2.2 dX1_takeWeight_14

def fX1_takeCode (an pn gr : Int32) (kd pl wt : Nat → Int32) (du co : Int32) : Int32 × Int32 × Int32 × Int32 × (Nat → Int32) × (Nat → Int32) × (Nat → Int32) := (if du = 0 then (if co = 97 then (1, an, pn, gr, kd, pl, wt) else ((-1), an, pn, gr, kd, pl, wt)) else (if du = 1 then (if co = 44 then (if (6 : Int32) ≤ an then ((-1), an, pn, gr, kd, pl, wt) else (2, an, pn, gr, kd, pl, wt)) else (if co = 59 then (if an < 2 then ((-1), an, pn, gr, kd, pl, wt) else (4, an, pn, gr, kd, pl, wt)) else ((-1), an, pn, gr, kd, pl, wt))) else (if du = 2 then ((fX1_takeKind an kd (fX1_kindByLetter co)).1, an, pn, gr, (fX1_takeKind an kd (fX1_kindByLetter co)).2, pl, wt) else (if du = 3 then ((fX1_takePlace an pl co).1, (fX1_takePlace an pl co).2.1, pn, gr, kd, (fX1_takePlace an pl co).2.2, wt) else (if du = 4 then ((fX1_takeGrowth gr co).1, an, pn, (fX1_takeGrowth gr co).2, kd, pl, wt) else (if du = 5 then (if co = 47 then (if (5 : Int32) ≤ pn then ((-1), an, pn, gr, kd, pl, wt) else (6, an, pn, gr, kd, pl, wt)) else ((-1), an, pn, gr, kd, pl, wt)) else (if du = 6 then ((fX1_takeWeight pn wt co).1, an, (fX1_takeWeight pn wt co).2.1, gr, kd, pl, (fX1_takeWeight pn wt co).2.2) else ((-1), an, pn, gr, kd, pl, wt))))))))
theorem q_X1_takeCode : yX1_takeCode.cls = RX1 ∧ yX1_takeCode.cls ≠ "java/lang/invoke/MethodHandle" ∧ yX1_takeCode.cls ≠ "java/lang/invoke/VarHandle" ∧ (parseMethodDescriptor yX1_takeCode.desc).map (fun d => d.parameters.length) = some 2 := by decide +kernel
set_option maxHeartbeats 4000000 in
set_option maxRecDepth 100000 in
theorem c_X1_takeCode (l : Launch) (D : va_G) (cI cS : ClassId) (h ak ap aw : Nat) (an pn gr : Int32) (kd pl wt : Nat → Int32) (du co : Int32)  : MMi l yX1_takeCode wsX1_takeCode { frames := 2, cells := 0, slots := 0, locals := 43 } D cI cS (wSec cI h ak ap aw an pn gr kd pl wt) [.ref h, .int du, .int co] ((fX1_takeCode an pn gr kd pl wt du co).1) (wSec cI h ak ap aw ((fX1_takeCode an pn gr kd pl wt du co).2.1) ((fX1_takeCode an pn gr kd pl wt du co).2.2.1) ((fX1_takeCode an pn gr kd pl wt du co).2.2.2.1) ((fX1_takeCode an pn gr kd pl wt du co).2.2.2.2.1) ((fX1_takeCode an pn gr kd pl wt du co).2.2.2.2.2.1) ((fX1_takeCode an pn gr kd pl wt du co).2.2.2.2.2.2)) := by
  refine kEnterM (cc := cX1_takeCode) (maxL := 3) (ret := (some .int)) (by decide) rfl (Nat.le_of_ble_eq_true rfl) ?_
  intro p e s m below meth c ls Qf hQ hx hb hml hr hlocks hown hts hK hP hD hS hl
  have hown : s.vm.findClass RX1 = some m.cls := hown
  have hl : lv_has ls 3 [(0, .ref h), (1, .int du), (2, .int co)] := hl
  generalize kA (wSec cI h ak ap aw an pn gr kd pl wt) = A at hQ hD hS
  refine lv_iload_n hx hb dX1_takeCode_0 rfl (lv_at hl 1 rfl) ?_
  by_cases c1_0 : du = 0
  · skip
    refine lv_tableIn (tgt := 44) (off := 43) hx hb dX1_takeCode_1 (by rw [c1_0]; decide) (by rw [c1_0]; decide) (by rw [c1_0]; decide) (by decide) ?_
    refine lv_iload_n hx hb dX1_takeCode_44 rfl (lv_at hl 2 rfl) ?_
    refine lv_bipush (v := 97) hx hb dX1_takeCode_45 (by decide) ?_
    refine lv_icmp_ne (tgt := 54) hx hb dX1_takeCode_47 (by decide) (fun c47 => ?_) (fun c47 => ?_)
    · skip
      refine lv_iconst (v := (-1)) hx hb dX1_takeCode_54 (by decide) ?_
      have hR1 : (fX1_takeCode an pn gr kd pl wt du co) = ((-1), an, pn, gr, kd, pl, wt) := (by unfold fX1_takeCode; rw [if_pos c1_0, if_neg c47])
      rw [hQ]
      exact W.iret (v := (-1)) hx hb hr (fun t ht hW => ⟨⟨_, (), rfl, (by show _ = _; rw [hR1]), (by show va_P D vwCl _ t.heap; rw [hR1, ht]; exact hP)⟩, hS.F ht⟩) hS.2.2 dX1_takeCode_55
    refine lv_iconst (v := 1) hx hb dX1_takeCode_50 (by decide) ?_
    refine lv_goto (tgt := 55) hx hb dX1_takeCode_51 (by decide) ?_
    have hR2 : (fX1_takeCode an pn gr kd pl wt du co) = (1, an, pn, gr, kd, pl, wt) := (by unfold fX1_takeCode; rw [if_pos c1_0, if_pos c47])
    rw [hQ]
    exact W.iret (v := 1) hx hb hr (fun t ht hW => ⟨⟨_, (), rfl, (by show _ = _; rw [hR2]), (by show va_P D vwCl _ t.heap; rw [hR2, ht]; exact hP)⟩, hS.F ht⟩) hS.2.2 dX1_takeCode_55
  by_cases c1_1 : du = 1
  · skip
    refine lv_tableIn (tgt := 56) (off := 55) hx hb dX1_takeCode_1 (by rw [c1_1]; decide) (by rw [c1_1]; decide) (by rw [c1_1]; decide) (by decide) ?_
    refine lv_iload_n hx hb dX1_takeCode_56 rfl (lv_at hl 2 rfl) ?_
    refine lv_bipush (v := 44) hx hb dX1_takeCode_57 (by decide) ?_
    refine lv_icmp_ne (tgt := 77) hx hb dX1_takeCode_59 (by decide) (fun c59 => ?_) (fun c59 => ?_)
    · skip
      refine lv_iload_n hx hb dX1_takeCode_77 rfl (lv_at hl 2 rfl) ?_
      refine lv_bipush (v := 59) hx hb dX1_takeCode_78 (by decide) ?_
      refine lv_icmp_ne (tgt := 95) hx hb dX1_takeCode_80 (by decide) (fun c80 => ?_) (fun c80 => ?_)
      · skip
        refine lv_iconst (v := (-1)) hx hb dX1_takeCode_95 (by decide) ?_
        have hR3 : (fX1_takeCode an pn gr kd pl wt du co) = ((-1), an, pn, gr, kd, pl, wt) := (by unfold fX1_takeCode; rw [if_neg c1_0, if_pos c1_1, if_neg c59, if_neg c80])
        rw [hQ]
        exact W.iret (v := (-1)) hx hb hr (fun t ht hW => ⟨⟨_, (), rfl, (by show _ = _; rw [hR3]), (by show va_P D vwCl _ t.heap; rw [hR3, ht]; exact hP)⟩, hS.F ht⟩) hS.2.2 dX1_takeCode_96
      refine lv_aload_n hx hb dX1_takeCode_83 rfl (lv_at hl 0 rfl) ?_
      refine va_get (D := D) (ci := 1) (v := .int an) (C := RX1) (T := TX1) (N := 6) hx hb hts (fun _ h => List.mem_cons_of_mem _ (List.mem_append_right _ h)) hown hK.1 hP 0 rfl rfl 3 (by decide) (hts (.fieldLink RX1 21 "LieNights$Secret" "answers" "I") (List.mem_of_getElem? (i := 1) rfl)) (fun _ h9 => h9) rfl dX1_takeCode_84 ?_
      refine lv_iconst (v := 2) hx hb dX1_takeCode_87 (by decide) ?_
      refine lv_icmp_lt (tgt := 95) hx hb dX1_takeCode_88 (by decide) (fun c88 => ?_) (fun c88 => ?_)
      · skip
        refine lv_iconst (v := (-1)) hx hb dX1_takeCode_95 (by decide) ?_
        have hR4 : (fX1_takeCode an pn gr kd pl wt du co) = ((-1), an, pn, gr, kd, pl, wt) := (by unfold fX1_takeCode; rw [if_neg c1_0, if_pos c1_1, if_neg c59, if_pos c80, if_pos c88])
        rw [hQ]
        exact W.iret (v := (-1)) hx hb hr (fun t ht hW => ⟨⟨_, (), rfl, (by show _ = _; rw [hR4]), (by show va_P D vwCl _ t.heap; rw [hR4, ht]; exact hP)⟩, hS.F ht⟩) hS.2.2 dX1_takeCode_96
      refine lv_iconst (v := 4) hx hb dX1_takeCode_91 (by decide) ?_
      refine lv_goto (tgt := 96) hx hb dX1_takeCode_92 (by decide) ?_
      have hR5 : (fX1_takeCode an pn gr kd pl wt du co) = (4, an, pn, gr, kd, pl, wt) := (by unfold fX1_takeCode; rw [if_neg c1_0, if_pos c1_1, if_neg c59, if_pos c80, if_neg c88])
      rw [hQ]
      exact W.iret (v := 4) hx hb hr (fun t ht hW => ⟨⟨_, (), rfl, (by show _ = _; rw [hR5]), (by show va_P D vwCl _ t.heap; rw [hR5, ht]; exact hP)⟩, hS.F ht⟩) hS.2.2 dX1_takeCode_96
    refine lv_aload_n hx hb dX1_takeCode_62 rfl (lv_at hl 0 rfl) ?_
    refine va_get (D := D) (ci := 1) (v := .int an) (C := RX1) (T := TX1) (N := 6) hx hb hts (fun _ h => List.mem_cons_of_mem _ (List.mem_append_right _ h)) hown hK.1 hP 0 rfl rfl 3 (by decide) (hts (.fieldLink RX1 21 "LieNights$Secret" "answers" "I") (List.mem_of_getElem? (i := 1) rfl)) (fun _ h9 => h9) rfl dX1_takeCode_63 ?_
    refine lv_bipush (v := 6) hx hb dX1_takeCode_66 (by decide) ?_
    refine lv_icmp_ge (tgt := 75) hx hb dX1_takeCode_68 (by decide) (fun c68 => ?_) (fun c68 => ?_)
    · skip
      refine lv_iconst (v := (-1)) hx hb dX1_takeCode_75 (by decide) ?_
      have hR6 : (fX1_takeCode an pn gr kd pl wt du co) = ((-1), an, pn, gr, kd, pl, wt) := (by unfold fX1_takeCode; rw [if_neg c1_0, if_pos c1_1, if_pos c59, if_pos c68])
      rw [hQ]
      exact W.iret (v := (-1)) hx hb hr (fun t ht hW => ⟨⟨_, (), rfl, (by show _ = _; rw [hR6]), (by show va_P D vwCl _ t.heap; rw [hR6, ht]; exact hP)⟩, hS.F ht⟩) hS.2.2 dX1_takeCode_76
    refine lv_iconst (v := 2) hx hb dX1_takeCode_71 (by decide) ?_
    refine lv_goto (tgt := 76) hx hb dX1_takeCode_72 (by decide) ?_
    have hR7 : (fX1_takeCode an pn gr kd pl wt du co) = (2, an, pn, gr, kd, pl, wt) := (by unfold fX1_takeCode; rw [if_neg c1_0, if_pos c1_1, if_pos c59, if_neg c68])
    rw [hQ]
    exact W.iret (v := 2) hx hb hr (fun t ht hW => ⟨⟨_, (), rfl, (by show _ = _; rw [hR7]), (by show va_P D vwCl _ t.heap; rw [hR7, ht]; exact hP)⟩, hS.F ht⟩) hS.2.2 dX1_takeCode_76
  by_cases c1_2 : du = 2
  · skip
    refine lv_tableIn (tgt := 97) (off := 96) hx hb dX1_takeCode_1 (by rw [c1_2]; decide) (by rw [c1_2]; decide) (by rw [c1_2]; decide) (by decide) ?_
    refine lv_aload_n hx hb dX1_takeCode_97 rfl (lv_at hl 0 rfl) ?_
    refine lv_iload_n hx hb dX1_takeCode_98 rfl (lv_at hl 2 rfl) ?_
    refine kPi (va_runS (As := [.int co]) (rest := [.ref h]) ⟨hx, hb, hml, hown, hts⟩ (c_X1_kindByLetter l D cI cS co) (va_cwS 1 hts gX1_takeCode_X1_kindByLetter rfl rfl rfl q_X1_kindByLetter.2 ⟨Nat.le_of_ble_eq_true rfl, Nat.le_of_ble_eq_true rfl⟩) (kPS hK hP [] rfl [.int co]) rfl rfl hl.1 rfl (lv_room (Nat.le_of_ble_eq_true rfl)) dX1_takeCode_99 ⟨Nat.zero_le _, Nat.zero_le _⟩) ?_
    refine kMi (wl' := (wSec cI h ak ap aw an pn gr ((fX1_takeKind an kd (fX1_kindByLetter co)).2) pl wt)) (wc := (wSec cI h ak ap aw an pn gr kd pl wt)) (w1 := (wSec cI h ak ap aw an pn gr ((fX1_takeKind an kd (fX1_kindByLetter co)).2) pl wt)) hP hD hS [0, 1, 2, 3] rfl rfl rfl (va_runV (As := [.int (fX1_kindByLetter co)]) (rest := []) ⟨hx, hb, hml, hown, hts⟩ (c_X1_takeKind l D cI cS h ak ap aw an pn gr kd pl wt (fX1_kindByLetter co)) (cwV 1 hts gX1_takeCode_X1_takeKind rfl rfl rfl q_X1_takeKind ⟨Nat.le_of_ble_eq_true rfl, Nat.le_of_ble_eq_true rfl⟩) (kMV hK hP hD [0, 1, 2, 3] rfl rfl (va_recv hK.1 hP (ci := 1) (q0 := 0) rfl rfl) [.int (fX1_kindByLetter co)]) rfl rfl hl.1 rfl (lv_room (Nat.le_of_ble_eq_true rfl)) dX1_takeCode_102 ⟨Nat.zero_le _, Nat.zero_le _⟩) (fun H locs hP hD hS => ?_)
    have hR8 : (fX1_takeCode an pn gr kd pl wt du co) = ((fX1_takeKind an kd (fX1_kindByLetter co)).1, an, pn, gr, (fX1_takeKind an kd (fX1_kindByLetter co)).2, pl, wt) := (by unfold fX1_takeCode; rw [if_neg c1_0, if_neg c1_1, if_pos c1_2])
    rw [hQ]
    exact W.iret (v := (fX1_takeKind an kd (fX1_kindByLetter co)).1) hx hb hr (fun t ht hW => ⟨⟨_, (), rfl, (by show _ = _; rw [hR8]), (by show va_P D vwCl _ t.heap; rw [hR8, ht]; exact hP)⟩, hS.F ht⟩) hS.2.2 dX1_takeCode_105
  by_cases c1_3 : du = 3
  · skip
    refine lv_tableIn (tgt := 106) (off := 105) hx hb dX1_takeCode_1 (by rw [c1_3]; decide) (by rw [c1_3]; decide) (by rw [c1_3]; decide) (by decide) ?_
    refine lv_aload_n hx hb dX1_takeCode_106 rfl (lv_at hl 0 rfl) ?_
    refine lv_iload_n hx hb dX1_takeCode_107 rfl (lv_at hl 2 rfl) ?_
    refine kMi (wl' := (wSec cI h ak ap aw ((fX1_takePlace an pl co).2.1) pn gr kd ((fX1_takePlace an pl co).2.2) wt)) (wc := (wSec cI h ak ap aw an pn gr kd pl wt)) (w1 := (wSec cI h ak ap aw ((fX1_takePlace an pl co).2.1) pn gr kd ((fX1_takePlace an pl co).2.2) wt)) hP hD hS [0, 1, 2, 3] rfl rfl rfl (va_runV (As := [.int co]) (rest := []) ⟨hx, hb, hml, hown, hts⟩ (c_X1_takePlace l D cI cS h ak ap aw an pn gr kd pl wt co) (cwV 1 hts gX1_takeCode_X1_takePlace rfl rfl rfl q_X1_takePlace ⟨Nat.le_of_ble_eq_true rfl, Nat.le_of_ble_eq_true rfl⟩) (kMV hK hP hD [0, 1, 2, 3] rfl rfl (va_recv hK.1 hP (ci := 1) (q0 := 0) rfl rfl) [.int co]) rfl rfl hl.1 rfl (lv_room (Nat.le_of_ble_eq_true rfl)) dX1_takeCode_108 ⟨Nat.zero_le _, Nat.zero_le _⟩) (fun H locs hP hD hS => ?_)
    have hR9 : (fX1_takeCode an pn gr kd pl wt du co) = ((fX1_takePlace an pl co).1, (fX1_takePlace an pl co).2.1, pn, gr, kd, (fX1_takePlace an pl co).2.2, wt) := (by unfold fX1_takeCode; rw [if_neg c1_0, if_neg c1_1, if_neg c1_2, if_pos c1_3])
    rw [hQ]
    exact W.iret (v := (fX1_takePlace an pl co).1) hx hb hr (fun t ht hW => ⟨⟨_, (), rfl, (by show _ = _; rw [hR9]), (by show va_P D vwCl _ t.heap; rw [hR9, ht]; exact hP)⟩, hS.F ht⟩) hS.2.2 dX1_takeCode_111
  by_cases c1_4 : du = 4
  · skip
    refine lv_tableIn (tgt := 112) (off := 111) hx hb dX1_takeCode_1 (by rw [c1_4]; decide) (by rw [c1_4]; decide) (by rw [c1_4]; decide) (by decide) ?_
    refine lv_aload_n hx hb dX1_takeCode_112 rfl (lv_at hl 0 rfl) ?_
    refine lv_iload_n hx hb dX1_takeCode_113 rfl (lv_at hl 2 rfl) ?_
    refine kMi (wl' := (wSec cI h ak ap aw an pn ((fX1_takeGrowth gr co).2) kd pl wt)) (wc := (wSec cI h ak ap aw an pn gr kd pl wt)) (w1 := (wSec cI h ak ap aw an pn ((fX1_takeGrowth gr co).2) kd pl wt)) hP hD hS [0, 1, 2, 3] rfl rfl rfl (va_runV (As := [.int co]) (rest := []) ⟨hx, hb, hml, hown, hts⟩ (c_X1_takeGrowth l D cI cS h ak ap aw an pn gr kd pl wt co) (cwV 1 hts gX1_takeCode_X1_takeGrowth rfl rfl rfl q_X1_takeGrowth ⟨Nat.le_of_ble_eq_true rfl, Nat.le_of_ble_eq_true rfl⟩) (kMV hK hP hD [0, 1, 2, 3] rfl rfl (va_recv hK.1 hP (ci := 1) (q0 := 0) rfl rfl) [.int co]) rfl rfl hl.1 rfl (lv_room (Nat.le_of_ble_eq_true rfl)) dX1_takeCode_114 ⟨Nat.zero_le _, Nat.zero_le _⟩) (fun H locs hP hD hS => ?_)
    have hR10 : (fX1_takeCode an pn gr kd pl wt du co) = ((fX1_takeGrowth gr co).1, an, pn, (fX1_takeGrowth gr co).2, kd, pl, wt) := (by unfold fX1_takeCode; rw [if_neg c1_0, if_neg c1_1, if_neg c1_2, if_neg c1_3, if_pos c1_4])
    rw [hQ]
    exact W.iret (v := (fX1_takeGrowth gr co).1) hx hb hr (fun t ht hW => ⟨⟨_, (), rfl, (by show _ = _; rw [hR10]), (by show va_P D vwCl _ t.heap; rw [hR10, ht]; exact hP)⟩, hS.F ht⟩) hS.2.2 dX1_takeCode_117
  by_cases c1_5 : du = 5
  · skip
    refine lv_tableIn (tgt := 118) (off := 117) hx hb dX1_takeCode_1 (by rw [c1_5]; decide) (by rw [c1_5]; decide) (by rw [c1_5]; decide) (by decide) ?_
    refine lv_iload_n hx hb dX1_takeCode_118 rfl (lv_at hl 2 rfl) ?_
    refine lv_bipush (v := 47) hx hb dX1_takeCode_119 (by decide) ?_
    refine lv_icmp_ne (tgt := 137) hx hb dX1_takeCode_121 (by decide) (fun c121 => ?_) (fun c121 => ?_)
    · skip
      refine lv_iconst (v := (-1)) hx hb dX1_takeCode_137 (by decide) ?_
      have hR11 : (fX1_takeCode an pn gr kd pl wt du co) = ((-1), an, pn, gr, kd, pl, wt) := (by unfold fX1_takeCode; rw [if_neg c1_0, if_neg c1_1, if_neg c1_2, if_neg c1_3, if_neg c1_4, if_pos c1_5, if_neg c121])
      rw [hQ]
      exact W.iret (v := (-1)) hx hb hr (fun t ht hW => ⟨⟨_, (), rfl, (by show _ = _; rw [hR11]), (by show va_P D vwCl _ t.heap; rw [hR11, ht]; exact hP)⟩, hS.F ht⟩) hS.2.2 dX1_takeCode_138
    refine lv_aload_n hx hb dX1_takeCode_124 rfl (lv_at hl 0 rfl) ?_
    refine va_get (D := D) (ci := 1) (v := .int pn) (C := RX1) (T := TX1) (N := 6) hx hb hts (fun _ h => List.mem_cons_of_mem _ (List.mem_append_right _ h)) hown hK.1 hP 0 rfl rfl 4 (by decide) (hts (.fieldLink RX1 25 "LieNights$Secret" "pillars" "I") (List.mem_of_getElem? (i := 2) rfl)) (fun _ h9 => h9) rfl dX1_takeCode_125 ?_
    refine lv_iconst (v := 5) hx hb dX1_takeCode_128 (by decide) ?_
    refine lv_icmp_ge (tgt := 137) hx hb dX1_takeCode_129 (by decide) (fun c129 => ?_) (fun c129 => ?_)
    · skip
      refine lv_iconst (v := (-1)) hx hb dX1_takeCode_137 (by decide) ?_
      have hR12 : (fX1_takeCode an pn gr kd pl wt du co) = ((-1), an, pn, gr, kd, pl, wt) := (by unfold fX1_takeCode; rw [if_neg c1_0, if_neg c1_1, if_neg c1_2, if_neg c1_3, if_neg c1_4, if_pos c1_5, if_pos c121, if_pos c129])
      rw [hQ]
      exact W.iret (v := (-1)) hx hb hr (fun t ht hW => ⟨⟨_, (), rfl, (by show _ = _; rw [hR12]), (by show va_P D vwCl _ t.heap; rw [hR12, ht]; exact hP)⟩, hS.F ht⟩) hS.2.2 dX1_takeCode_138
    refine lv_bipush (v := 6) hx hb dX1_takeCode_132 (by decide) ?_
    refine lv_goto (tgt := 138) hx hb dX1_takeCode_134 (by decide) ?_
    have hR13 : (fX1_takeCode an pn gr kd pl wt du co) = (6, an, pn, gr, kd, pl, wt) := (by unfold fX1_takeCode; rw [if_neg c1_0, if_neg c1_1, if_neg c1_2, if_neg c1_3, if_neg c1_4, if_pos c1_5, if_pos c121, if_neg c129])
    rw [hQ]
    exact W.iret (v := 6) hx hb hr (fun t ht hW => ⟨⟨_, (), rfl, (by show _ = _; rw [hR13]), (by show va_P D vwCl _ t.heap; rw [hR13, ht]; exact hP)⟩, hS.F ht⟩) hS.2.2 dX1_takeCode_138
  by_cases c1_6 : du = 6
  · skip
    refine lv_tableIn (tgt := 139) (off := 138) hx hb dX1_takeCode_1 (by rw [c1_6]; decide) (by rw [c1_6]; decide) (by rw [c1_6]; decide) (by decide) ?_
    refine lv_aload_n hx hb dX1_takeCode_139 rfl (lv_at hl 0 rfl) ?_
    refine lv_iload_n hx hb dX1_takeCode_140 rfl (lv_at hl 2 rfl) ?_
    refine kMi (wl' := (wSec cI h ak ap aw an ((fX1_takeWeight pn wt co).2.1) gr kd pl ((fX1_takeWeight pn wt co).2.2))) (wc := (wSec cI h ak ap aw an pn gr kd pl wt)) (w1 := (wSec cI h ak ap aw an ((fX1_takeWeight pn wt co).2.1) gr kd pl ((fX1_takeWeight pn wt co).2.2))) hP hD hS [0, 1, 2, 3] rfl rfl rfl (va_runV (As := [.int co]) (rest := []) ⟨hx, hb, hml, hown, hts⟩ (c_X1_takeWeight l D cI cS h ak ap aw an pn gr kd pl wt co) (cwV 1 hts gX1_takeCode_X1_takeWeight rfl rfl rfl q_X1_takeWeight ⟨Nat.le_of_ble_eq_true rfl, Nat.le_of_ble_eq_true rfl⟩) (kMV hK hP hD [0, 1, 2, 3] rfl rfl (va_recv hK.1 hP (ci := 1) (q0 := 0) rfl rfl) [.int co]) rfl rfl hl.1 rfl (lv_room (Nat.le_of_ble_eq_true rfl)) dX1_takeCode_141 ⟨Nat.zero_le _, Nat.zero_le _⟩) (fun H locs hP hD hS => ?_)
    have hR14 : (fX1_takeCode an pn gr kd pl wt du co) = ((fX1_takeWeight pn wt co).1, an, (fX1_takeWeight pn wt co).2.1, gr, kd, pl, (fX1_takeWeight pn wt co).2.2) := (by unfold fX1_takeCode; rw [if_neg c1_0, if_neg c1_1, if_neg c1_2, if_neg c1_3, if_neg c1_4, if_neg c1_5, if_pos c1_6])
    rw [hQ]
    exact W.iret (v := (fX1_takeWeight pn wt co).1) hx hb hr (fun t ht hW => ⟨⟨_, (), rfl, (by show _ = _; rw [hR14]), (by show va_P D vwCl _ t.heap; rw [hR14, ht]; exact hP)⟩, hS.F ht⟩) hS.2.2 dX1_takeCode_144
  refine lv_tableOut (tgt := 145) hx hb dX1_takeCode_1 (by have h0 := lv_neT (k := 0) (a := 0) c1_0 rfl; have h1 := lv_neT (k := 1) (a := 1) c1_1 rfl; have h2 := lv_neT (k := 2) (a := 2) c1_2 rfl; have h3 := lv_neT (k := 3) (a := 3) c1_3 rfl; have h4 := lv_neT (k := 4) (a := 4) c1_4 rfl; have h5 := lv_neT (k := 5) (a := 5) c1_5 rfl; have h6 := lv_neT (k := 6) (a := 6) c1_6 rfl; omega) (by decide) ?_
  refine lv_iconst (v := (-1)) hx hb dX1_takeCode_145 (by decide) ?_
  have hR15 : (fX1_takeCode an pn gr kd pl wt du co) = ((-1), an, pn, gr, kd, pl, wt) := (by unfold fX1_takeCode; rw [if_neg c1_0, if_neg c1_1, if_neg c1_2, if_neg c1_3, if_neg c1_4, if_neg c1_5, if_neg c1_6])
  rw [hQ]
  exact W.iret (v := (-1)) hx hb hr (fun t ht hW => ⟨⟨_, (), rfl, (by show _ = _; rw [hR15]), (by show va_P D vwCl _ t.heap; rw [hR15, ht]; exact hP)⟩, hS.F ht⟩) hS.2.2 dX1_takeCode_146

def aX1_readText_16 (nn v4_16 wan_16 wpn_16 wgr_16 : Int32) (wkd_16 wpl_16 wwt_16 : Nat → Int32) : (Int32 × Int32 × Int32 × Int32 × (Nat → Int32) × (Nat → Int32) × (Nat → Int32)) := (if v4_16 = 5 then (if wpn_16 < 1 then (nn, wan_16, wpn_16, wgr_16, wkd_16, wpl_16, wwt_16) else ((-1), wan_16, wpn_16, wgr_16, wkd_16, wpl_16, wwt_16)) else (nn, wan_16, wpn_16, wgr_16, wkd_16, wpl_16, wwt_16))
def sX1_readText_16 (ce2 : Nat → Int32) (i : Int32) (k16 : Nat) (v4_16 wan_16 wpn_16 wgr_16 : Int32) (wkd_16 wpl_16 wwt_16 : Nat → Int32) : (Int32 × Int32 × Int32 × Int32 × (Nat → Int32) × (Nat → Int32) × (Nat → Int32)) ⊕ (Int32 × Int32 × Int32 × Int32 × (Nat → Int32) × (Nat → Int32) × (Nat → Int32)) := (if (fX1_takeCode wan_16 wpn_16 wgr_16 wkd_16 wpl_16 wwt_16 v4_16 (fX2_get ce2 (i + (nI k16)))).1 = (-1) then (.inr ((nI k16), (fX1_takeCode wan_16 wpn_16 wgr_16 wkd_16 wpl_16 wwt_16 v4_16 (fX2_get ce2 (i + (nI k16)))).2.1, (fX1_takeCode wan_16 wpn_16 wgr_16 wkd_16 wpl_16 wwt_16 v4_16 (fX2_get ce2 (i + (nI k16)))).2.2.1, (fX1_takeCode wan_16 wpn_16 wgr_16 wkd_16 wpl_16 wwt_16 v4_16 (fX2_get ce2 (i + (nI k16)))).2.2.2.1, (fX1_takeCode wan_16 wpn_16 wgr_16 wkd_16 wpl_16 wwt_16 v4_16 (fX2_get ce2 (i + (nI k16)))).2.2.2.2.1, (fX1_takeCode wan_16 wpn_16 wgr_16 wkd_16 wpl_16 wwt_16 v4_16 (fX2_get ce2 (i + (nI k16)))).2.2.2.2.2.1, (fX1_takeCode wan_16 wpn_16 wgr_16 wkd_16 wpl_16 wwt_16 v4_16 (fX2_get ce2 (i + (nI k16)))).2.2.2.2.2.2)) else (.inl ((fX1_takeCode wan_16 wpn_16 wgr_16 wkd_16 wpl_16 wwt_16 v4_16 (fX2_get ce2 (i + (nI k16)))).1, (fX1_takeCode wan_16 wpn_16 wgr_16 wkd_16 wpl_16 wwt_16 v4_16 (fX2_get ce2 (i + (nI k16)))).2.1, (fX1_takeCode wan_16 wpn_16 wgr_16 wkd_16 wpl_16 wwt_16 v4_16 (fX2_get ce2 (i + (nI k16)))).2.2.1, (fX1_takeCode wan_16 wpn_16 wgr_16 wkd_16 wpl_16 wwt_16 v4_16 (fX2_get ce2 (i + (nI k16)))).2.2.2.1, (fX1_takeCode wan_16 wpn_16 wgr_16 wkd_16 wpl_16 wwt_16 v4_16 (fX2_get ce2 (i + (nI k16)))).2.2.2.2.1, (fX1_takeCode wan_16 wpn_16 wgr_16 wkd_16 wpl_16 wwt_16 v4_16 (fX2_get ce2 (i + (nI k16)))).2.2.2.2.2.1, (fX1_takeCode wan_16 wpn_16 wgr_16 wkd_16 wpl_16 wwt_16 v4_16 (fX2_get ce2 (i + (nI k16)))).2.2.2.2.2.2)))
def fX1_readText (gr : Int32) (kd pl wt ce2 : Nat → Int32) (Nn : Nat) (i nn : Int32) : Int32 × Int32 × Int32 × Int32 × (Nat → Int32) × (Nat → Int32) × (Nat → Int32) := (lqr (lq (fun k a => sX1_readText_16 ce2 i k a.1 a.2.1 a.2.2.1 a.2.2.2.1 a.2.2.2.2.1 a.2.2.2.2.2.1 a.2.2.2.2.2.2) (0, 0, 0, gr, kd, pl, wt) Nn) (fun a => aX1_readText_16 nn a.1 a.2.1 a.2.2.1 a.2.2.2.1 a.2.2.2.2.1 a.2.2.2.2.2.1 a.2.2.2.2.2.2))
theorem q_X1_readText : yX1_readText.cls = RX1 ∧ yX1_readText.cls ≠ "java/lang/invoke/MethodHandle" ∧ yX1_readText.cls ≠ "java/lang/invoke/VarHandle" ∧ (parseMethodDescriptor yX1_readText.desc).map (fun d => d.parameters.length) = some 3 := by decide +kernel
set_option maxHeartbeats 4000000 in
set_option maxRecDepth 100000 in
theorem c_X1_readText (l : Launch) (D : va_G) (cI cS : ClassId) (h ak ap aw : Nat) (an pn gr : Int32) (kd pl wt : Nat → Int32) (h2 ac2 : Nat) (la2 le2 : Int32) (ce2 : Nat → Int32) (Nn : Nat) (i nn : Int32) (hn : nn = nI Nn) (hNn : Nn ≤ 60) : MMi l yX1_readText wsX1_readText { frames := 3, cells := 0, slots := 0, locals := 65 } D cI cS (wSecSh cI h ak ap aw an pn gr kd pl wt h2 ac2 la2 le2 ce2) [.ref h, .ref h2, .int i, .int nn] ((fX1_readText gr kd pl wt ce2 Nn i nn).1) (wSecSh cI h ak ap aw ((fX1_readText gr kd pl wt ce2 Nn i nn).2.1) ((fX1_readText gr kd pl wt ce2 Nn i nn).2.2.1) ((fX1_readText gr kd pl wt ce2 Nn i nn).2.2.2.1) ((fX1_readText gr kd pl wt ce2 Nn i nn).2.2.2.2.1) ((fX1_readText gr kd pl wt ce2 Nn i nn).2.2.2.2.2.1) ((fX1_readText gr kd pl wt ce2 Nn i nn).2.2.2.2.2.2) h2 ac2 la2 le2 ce2) := by
  refine kEnterM (cc := cX1_readText) (maxL := 6) (ret := (some .int)) (by decide) rfl (Nat.le_of_ble_eq_true rfl) ?_
  intro p e s m below meth c ls Qf hQ hx hb hml hr hlocks hown hts hK hP hD hS hl
  have hown : s.vm.findClass RX1 = some m.cls := hown
  have hl : lv_has ls 6 [(0, .ref h), (1, .ref h2), (2, .int i), (3, .int nn)] := hl
  generalize kA (wSecSh cI h ak ap aw an pn gr kd pl wt h2 ac2 la2 le2 ce2) = A at hQ hD hS
  refine lv_aload_n hx hb dX1_readText_0 rfl (lv_at hl 0 rfl) ?_
  refine lv_iconst (v := 0) hx hb dX1_readText_1 (by decide) ?_
  refine va_put (D := D) (ci := 1) (v := .int 0) (ty := tyX1 3) (C := RX1) (T := TX1) (N := 6) hx hb hts (fun _ h => List.mem_cons_of_mem _ (List.mem_append_left _ (List.mem_append_right _ h))) tyX1 tyX1_ok nmX1 hown hK.1 hP hD hS 0 rfl rfl 3 (by decide) (hts (.fieldLink RX1 21 "LieNights$Secret" "answers" "I") (List.mem_of_getElem? (i := 1) rfl)) (fun _ h9 => h9) rfl (tyX1_ok 3 (by decide)) rfl rfl (Nat.le_of_ble_eq_true rfl) dX1_readText_2 (fun H locs hP hD hS => ?_)
  have hP : va_P D vwCl (wSecSh cI h ak ap aw 0 pn gr kd pl wt h2 ac2 la2 le2 ce2) H := hP
  have hD : va_D A (wSecSh cI h ak ap aw 0 pn gr kd pl wt h2 ac2 la2 le2 ce2) := hD
  refine lv_aload_n hx hb dX1_readText_5 rfl (lv_at hl 0 rfl) ?_
  refine lv_iconst (v := 0) hx hb dX1_readText_6 (by decide) ?_
  refine va_put (D := D) (ci := 1) (v := .int 0) (ty := tyX1 4) (C := RX1) (T := TX1) (N := 6) hx hb hts (fun _ h => List.mem_cons_of_mem _ (List.mem_append_left _ (List.mem_append_right _ h))) tyX1 tyX1_ok nmX1 hown hK.1 hP hD hS 0 rfl rfl 4 (by decide) (hts (.fieldLink RX1 25 "LieNights$Secret" "pillars" "I") (List.mem_of_getElem? (i := 2) rfl)) (fun _ h9 => h9) rfl (tyX1_ok 4 (by decide)) rfl rfl (Nat.le_of_ble_eq_true rfl) dX1_readText_7 (fun H locs hP hD hS => ?_)
  have hP : va_P D vwCl (wSecSh cI h ak ap aw 0 0 gr kd pl wt h2 ac2 la2 le2 ce2) H := hP
  have hD : va_D A (wSecSh cI h ak ap aw 0 0 gr kd pl wt h2 ac2 la2 le2 ce2) := hD
  refine lv_iconst (v := 0) hx hb dX1_readText_10 (by decide) ?_
  refine lv_istore (lv' := [(4, .int 0), (0, .ref h), (1, .ref h2), (2, .int i), (3, .int nn)]) hx hb dX1_readText_11 hl (by decide) rfl (fun ls hl => ?_)
  refine lv_iconst (v := 0) hx hb dX1_readText_13 (by decide) ?_
  refine lv_istore (lv' := [(5, .int 0), (4, .int 0), (0, .ref h), (1, .ref h2), (2, .int i), (3, .int nn)]) hx hb dX1_readText_14 hl (by decide) rfl (fun ls hl => ?_)
  have hR1 : (fX1_readText gr kd pl wt ce2 Nn i nn) = (lqr (lq (fun k a => sX1_readText_16 ce2 i k a.1 a.2.1 a.2.2.1 a.2.2.2.1 a.2.2.2.2.1 a.2.2.2.2.2.1 a.2.2.2.2.2.2) (0, 0, 0, gr, kd, pl, wt) Nn) (fun a => aX1_readText_16 nn a.1 a.2.1 a.2.2.1 a.2.2.2.1 a.2.2.2.2.1 a.2.2.2.2.2.1 a.2.2.2.2.2.2)) := rfl
  have loop16 : ∀ (n k16 : Nat), k16 ≤ Nn → Nn + 1 ≤ k16 + n → ∀ (v4_16 : Int32) (wan_16 : Int32) (wpn_16 : Int32) (wgr_16 : Int32) (wkd_16 : Nat → Int32) (wpl_16 : Nat → Int32) (wwt_16 : Nat → Int32), lq (fun k a => sX1_readText_16 ce2 i k a.1 a.2.1 a.2.2.1 a.2.2.2.1 a.2.2.2.2.1 a.2.2.2.2.2.1 a.2.2.2.2.2.2) (0, 0, 0, gr, kd, pl, wt) k16 = Sum.inl (v4_16, wan_16, wpn_16, wgr_16, wkd_16, wpl_16, wwt_16) →  ∀ (H : Heap) (locs : List Loc), va_P D vwCl (wSecSh cI h ak ap aw wan_16 wpn_16 wgr_16 wkd_16 wpl_16 wwt_16 h2 ac2 la2 le2 ce2) H → va_D A (wSecSh cI h ak ap aw wan_16 wpn_16 wgr_16 wkd_16 wpl_16 wwt_16 h2 ac2 la2 le2 ce2) → va_S A s.heap H locs → ∀ (ls : Array Slot), lv_has ls 6 [(0, .ref h), (1, .ref h2), (2, .int i), (3, .int nn), (4, .int v4_16), (5, .int (nI k16))] → W p l e { frames := 3, cells := 0, slots := 0, locals := 65 } s m ([.ref h, .ref h2, .int i, .int nn] : List Value).toArray below meth c H locs 0 0 Qf (F0 m 16 ls []) := by
    intro n
    induction n with
    | zero => intro k16 h1 h2; exact absurd h2 (by omega)
    | succ n ih =>
      intro k16 hk16 hn16 v4_16 wan_16 wpn_16 wgr_16 wkd_16 wpl_16 wwt_16 hacc16  H locs hP hD hS ls hl
      have ih16 := ih
      refine lv_iload hx hb dX1_readText_16 (lv_at hl 5 rfl) ?_
      refine lv_iload_n hx hb dX1_readText_18 rfl (lv_at hl 3 rfl) ?_
      refine lv_icmp_ge (tgt := 53) hx hb dX1_readText_19 (by decide) (fun c19 => ?_) (fun c19 => ?_)
      · skip
        have hkN : k16 = Nn := (kEnd hk16 rfl hn (by omega) c19)
        rw [hkN] at hacc16
        have hR2 : (fX1_readText gr kd pl wt ce2 Nn i nn) = aX1_readText_16 nn v4_16 wan_16 wpn_16 wgr_16 wkd_16 wpl_16 wwt_16 := hR1.trans (lq_end (x := (v4_16, wan_16, wpn_16, wgr_16, wkd_16, wpl_16, wwt_16)) (g := (fun a => aX1_readText_16 nn a.1 a.2.1 a.2.2.1 a.2.2.2.1 a.2.2.2.2.1 a.2.2.2.2.2.1 a.2.2.2.2.2.2)) hacc16)
        refine lv_iload hx hb dX1_readText_53 (lv_at hl 4 rfl) ?_
        refine lv_iconst (v := 5) hx hb dX1_readText_55 (by decide) ?_
        refine lv_icmp_ne (tgt := 71) hx hb dX1_readText_56 (by decide) (fun c56 => ?_) (fun c56 => ?_)
        · skip
          refine lv_iload_n hx hb dX1_readText_71 rfl (lv_at hl 3 rfl) ?_
          have hR3 : (fX1_readText gr kd pl wt ce2 Nn i nn) = (nn, wan_16, wpn_16, wgr_16, wkd_16, wpl_16, wwt_16) := hR2.trans (by unfold aX1_readText_16; rw [if_neg c56])
          rw [hQ]
          exact W.iret (v := nn) hx hb hr (fun t ht hW => ⟨⟨_, (), rfl, (by show _ = _; rw [hR3]), (by show va_P D vwCl _ t.heap; rw [hR3, ht]; exact hP)⟩, hS.F ht⟩) hS.2.2 dX1_readText_72
        refine lv_aload_n hx hb dX1_readText_59 rfl (lv_at hl 0 rfl) ?_
        refine va_get (D := D) (ci := 1) (v := .int wpn_16) (C := RX1) (T := TX1) (N := 6) hx hb hts (fun _ h => List.mem_cons_of_mem _ (List.mem_append_left _ (List.mem_append_right _ h))) hown hK.1 hP 0 rfl rfl 4 (by decide) (hts (.fieldLink RX1 25 "LieNights$Secret" "pillars" "I") (List.mem_of_getElem? (i := 2) rfl)) (fun _ h9 => h9) rfl dX1_readText_60 ?_
        refine lv_iconst (v := 1) hx hb dX1_readText_63 (by decide) ?_
        refine lv_icmp_lt (tgt := 71) hx hb dX1_readText_64 (by decide) (fun c64 => ?_) (fun c64 => ?_)
        · skip
          refine lv_iload_n hx hb dX1_readText_71 rfl (lv_at hl 3 rfl) ?_
          have hR4 : (fX1_readText gr kd pl wt ce2 Nn i nn) = (nn, wan_16, wpn_16, wgr_16, wkd_16, wpl_16, wwt_16) := hR2.trans (by unfold aX1_readText_16; rw [if_pos c56, if_pos c64])
          rw [hQ]
          exact W.iret (v := nn) hx hb hr (fun t ht hW => ⟨⟨_, (), rfl, (by show _ = _; rw [hR4]), (by show va_P D vwCl _ t.heap; rw [hR4, ht]; exact hP)⟩, hS.F ht⟩) hS.2.2 dX1_readText_72
        refine lv_iconst (v := (-1)) hx hb dX1_readText_67 (by decide) ?_
        refine lv_goto (tgt := 72) hx hb dX1_readText_68 (by decide) ?_
        have hR5 : (fX1_readText gr kd pl wt ce2 Nn i nn) = ((-1), wan_16, wpn_16, wgr_16, wkd_16, wpl_16, wwt_16) := hR2.trans (by unfold aX1_readText_16; rw [if_pos c56, if_neg c64])
        rw [hQ]
        exact W.iret (v := (-1)) hx hb hr (fun t ht hW => ⟨⟨_, (), rfl, (by show _ = _; rw [hR5]), (by show va_P D vwCl _ t.heap; rw [hR5, ht]; exact hP)⟩, hS.F ht⟩) hS.2.2 dX1_readText_72
      have hlt16 : k16 < Nn := (kLt hk16 rfl hn c19)
      refine lv_aload_n hx hb dX1_readText_22 rfl (lv_at hl 0 rfl) ?_
      refine lv_iload hx hb dX1_readText_23 (lv_at hl 4 rfl) ?_
      refine lv_aload_n hx hb dX1_readText_25 rfl (lv_at hl 1 rfl) ?_
      refine lv_iload_n hx hb dX1_readText_26 rfl (lv_at hl 2 rfl) ?_
      refine lv_iload hx hb dX1_readText_27 (lv_at hl 5 rfl) ?_
      refine lv_iadd hx hb dX1_readText_29 ?_
      refine kPi (va_runV (As := [.int (i + (nI k16))]) (rest := [.int v4_16, .ref h]) ⟨hx, hb, hml, hown, hts⟩ (c_X2_get l D cI cS h2 ac2 la2 le2 ce2 (i + (nI k16))) (cwV 1 hts gX1_readText_X2_get rfl rfl rfl q_X2_get ⟨Nat.le_of_ble_eq_true rfl, Nat.le_of_ble_eq_true rfl⟩) (kPV hK hP [4, 5] rfl (va_recv hK.1 hP (ci := 2) (q0 := 4) rfl rfl) [.int (i + (nI k16))]) rfl rfl hl.1 rfl (lv_room (Nat.le_of_ble_eq_true rfl)) dX1_readText_30 ⟨Nat.zero_le _, Nat.zero_le _⟩) ?_
      refine kMi (wl' := (wSecSh cI h ak ap aw ((fX1_takeCode wan_16 wpn_16 wgr_16 wkd_16 wpl_16 wwt_16 v4_16 (fX2_get ce2 (i + (nI k16)))).2.1) ((fX1_takeCode wan_16 wpn_16 wgr_16 wkd_16 wpl_16 wwt_16 v4_16 (fX2_get ce2 (i + (nI k16)))).2.2.1) ((fX1_takeCode wan_16 wpn_16 wgr_16 wkd_16 wpl_16 wwt_16 v4_16 (fX2_get ce2 (i + (nI k16)))).2.2.2.1) ((fX1_takeCode wan_16 wpn_16 wgr_16 wkd_16 wpl_16 wwt_16 v4_16 (fX2_get ce2 (i + (nI k16)))).2.2.2.2.1) ((fX1_takeCode wan_16 wpn_16 wgr_16 wkd_16 wpl_16 wwt_16 v4_16 (fX2_get ce2 (i + (nI k16)))).2.2.2.2.2.1) ((fX1_takeCode wan_16 wpn_16 wgr_16 wkd_16 wpl_16 wwt_16 v4_16 (fX2_get ce2 (i + (nI k16)))).2.2.2.2.2.2) h2 ac2 la2 le2 ce2)) (wc := (wSec cI h ak ap aw wan_16 wpn_16 wgr_16 wkd_16 wpl_16 wwt_16)) (w1 := (wSec cI h ak ap aw ((fX1_takeCode wan_16 wpn_16 wgr_16 wkd_16 wpl_16 wwt_16 v4_16 (fX2_get ce2 (i + (nI k16)))).2.1) ((fX1_takeCode wan_16 wpn_16 wgr_16 wkd_16 wpl_16 wwt_16 v4_16 (fX2_get ce2 (i + (nI k16)))).2.2.1) ((fX1_takeCode wan_16 wpn_16 wgr_16 wkd_16 wpl_16 wwt_16 v4_16 (fX2_get ce2 (i + (nI k16)))).2.2.2.1) ((fX1_takeCode wan_16 wpn_16 wgr_16 wkd_16 wpl_16 wwt_16 v4_16 (fX2_get ce2 (i + (nI k16)))).2.2.2.2.1) ((fX1_takeCode wan_16 wpn_16 wgr_16 wkd_16 wpl_16 wwt_16 v4_16 (fX2_get ce2 (i + (nI k16)))).2.2.2.2.2.1) ((fX1_takeCode wan_16 wpn_16 wgr_16 wkd_16 wpl_16 wwt_16 v4_16 (fX2_get ce2 (i + (nI k16)))).2.2.2.2.2.2))) hP hD hS [0, 1, 2, 3] rfl rfl rfl (va_runV (As := [.int v4_16, .int (fX2_get ce2 (i + (nI k16)))]) (rest := []) ⟨hx, hb, hml, hown, hts⟩ (c_X1_takeCode l D cI cS h ak ap aw wan_16 wpn_16 wgr_16 wkd_16 wpl_16 wwt_16 v4_16 (fX2_get ce2 (i + (nI k16)))) (cwV 2 hts gX1_readText_X1_takeCode rfl rfl rfl q_X1_takeCode ⟨Nat.le_of_ble_eq_true rfl, Nat.le_of_ble_eq_true rfl⟩) (kMV hK hP hD [0, 1, 2, 3] rfl rfl (va_recv hK.1 hP (ci := 1) (q0 := 0) rfl rfl) [.int v4_16, .int (fX2_get ce2 (i + (nI k16)))]) rfl rfl hl.1 rfl (lv_room (Nat.le_of_ble_eq_true rfl)) dX1_readText_33 ⟨Nat.zero_le _, Nat.zero_le _⟩) (fun H locs hP hD hS => ?_)
      refine lv_istore (lv' := [(4, .int ((fX1_takeCode wan_16 wpn_16 wgr_16 wkd_16 wpl_16 wwt_16 v4_16 (fX2_get ce2 (i + (nI k16)))).1)), (0, .ref h), (1, .ref h2), (2, .int i), (3, .int nn), (5, .int (nI k16))]) hx hb dX1_readText_36 hl (by decide) rfl (fun ls hl => ?_)
      refine lv_iload hx hb dX1_readText_38 (lv_at hl 0 rfl) ?_
      refine lv_iconst (v := (-1)) hx hb dX1_readText_40 (by decide) ?_
      refine lv_icmp_ne (tgt := 47) hx hb dX1_readText_41 (by decide) (fun c41 => ?_) (fun c41 => ?_)
      · skip
        refine lv_iinc (v := (nI (k16 + 1))) (lv' := [(5, .int (nI (k16 + 1))), (4, .int ((fX1_takeCode wan_16 wpn_16 wgr_16 wkd_16 wpl_16 wwt_16 v4_16 (fX2_get ce2 (i + (nI k16)))).1)), (0, .ref h), (1, .ref h2), (2, .int i), (3, .int nn)]) hx hb dX1_readText_47 hl (k := 5) rfl (nI_1 (k16)) (by decide) rfl (fun ls hl => ?_)
        refine lv_goto (tgt := 16) hx hb dX1_readText_50 (by decide) ?_
        have hR6 : sX1_readText_16 ce2 i k16 v4_16 wan_16 wpn_16 wgr_16 wkd_16 wpl_16 wwt_16 = (.inl ((fX1_takeCode wan_16 wpn_16 wgr_16 wkd_16 wpl_16 wwt_16 v4_16 (fX2_get ce2 (i + (nI k16)))).1, (fX1_takeCode wan_16 wpn_16 wgr_16 wkd_16 wpl_16 wwt_16 v4_16 (fX2_get ce2 (i + (nI k16)))).2.1, (fX1_takeCode wan_16 wpn_16 wgr_16 wkd_16 wpl_16 wwt_16 v4_16 (fX2_get ce2 (i + (nI k16)))).2.2.1, (fX1_takeCode wan_16 wpn_16 wgr_16 wkd_16 wpl_16 wwt_16 v4_16 (fX2_get ce2 (i + (nI k16)))).2.2.2.1, (fX1_takeCode wan_16 wpn_16 wgr_16 wkd_16 wpl_16 wwt_16 v4_16 (fX2_get ce2 (i + (nI k16)))).2.2.2.2.1, (fX1_takeCode wan_16 wpn_16 wgr_16 wkd_16 wpl_16 wwt_16 v4_16 (fX2_get ce2 (i + (nI k16)))).2.2.2.2.2.1, (fX1_takeCode wan_16 wpn_16 wgr_16 wkd_16 wpl_16 wwt_16 v4_16 (fX2_get ce2 (i + (nI k16)))).2.2.2.2.2.2)) := (by unfold sX1_readText_16; rw [if_neg c41])
        exact ih16 (k16 + 1) hlt16 (by omega) _ _ _ _ _ _ _ (lq_next hacc16 hR6)  _ _ hP hD hS ls (lv_sub hl [2, 3, 4, 5, 1, 0] rfl)
      refine lv_iload hx hb dX1_readText_44 (lv_at hl 5 rfl) ?_
      have hR7 : sX1_readText_16 ce2 i k16 v4_16 wan_16 wpn_16 wgr_16 wkd_16 wpl_16 wwt_16 = (.inr ((nI k16), (fX1_takeCode wan_16 wpn_16 wgr_16 wkd_16 wpl_16 wwt_16 v4_16 (fX2_get ce2 (i + (nI k16)))).2.1, (fX1_takeCode wan_16 wpn_16 wgr_16 wkd_16 wpl_16 wwt_16 v4_16 (fX2_get ce2 (i + (nI k16)))).2.2.1, (fX1_takeCode wan_16 wpn_16 wgr_16 wkd_16 wpl_16 wwt_16 v4_16 (fX2_get ce2 (i + (nI k16)))).2.2.2.1, (fX1_takeCode wan_16 wpn_16 wgr_16 wkd_16 wpl_16 wwt_16 v4_16 (fX2_get ce2 (i + (nI k16)))).2.2.2.2.1, (fX1_takeCode wan_16 wpn_16 wgr_16 wkd_16 wpl_16 wwt_16 v4_16 (fX2_get ce2 (i + (nI k16)))).2.2.2.2.2.1, (fX1_takeCode wan_16 wpn_16 wgr_16 wkd_16 wpl_16 wwt_16 v4_16 (fX2_get ce2 (i + (nI k16)))).2.2.2.2.2.2)) := (by unfold sX1_readText_16; rw [if_pos c41])
      have hR8 : (fX1_readText gr kd pl wt ce2 Nn i nn) = ((nI k16), (fX1_takeCode wan_16 wpn_16 wgr_16 wkd_16 wpl_16 wwt_16 v4_16 (fX2_get ce2 (i + (nI k16)))).2.1, (fX1_takeCode wan_16 wpn_16 wgr_16 wkd_16 wpl_16 wwt_16 v4_16 (fX2_get ce2 (i + (nI k16)))).2.2.1, (fX1_takeCode wan_16 wpn_16 wgr_16 wkd_16 wpl_16 wwt_16 v4_16 (fX2_get ce2 (i + (nI k16)))).2.2.2.1, (fX1_takeCode wan_16 wpn_16 wgr_16 wkd_16 wpl_16 wwt_16 v4_16 (fX2_get ce2 (i + (nI k16)))).2.2.2.2.1, (fX1_takeCode wan_16 wpn_16 wgr_16 wkd_16 wpl_16 wwt_16 v4_16 (fX2_get ce2 (i + (nI k16)))).2.2.2.2.2.1, (fX1_takeCode wan_16 wpn_16 wgr_16 wkd_16 wpl_16 wwt_16 v4_16 (fX2_get ce2 (i + (nI k16)))).2.2.2.2.2.2) := hR1.trans (lq_exit hacc16 hR7 hlt16)
      rw [hQ]
      exact W.iret (v := (nI k16)) hx hb hr (fun t ht hW => ⟨⟨_, (), rfl, (by show _ = _; rw [hR8]), (by show va_P D vwCl _ t.heap; rw [hR8, ht]; exact hP)⟩, hS.F ht⟩) hS.2.2 dX1_readText_46
  exact loop16 (Nn + 1) 0 (Nat.zero_le _) (by omega) _ _ _ _ _ _ _ rfl  _ _ hP hD hS ls (lv_sub hl [2, 3, 4, 5, 1, 0] rfl)
