def fX3_secret_n  : Int32 × Int32 := ((-1), 0)
theorem q_X3_secret : yX3_secret.cls = RX3 ∧ yX3_secret.cls ≠ "java/lang/invoke/MethodHandle" ∧ yX3_secret.cls ≠ "java/lang/invoke/VarHandle" ∧ (parseMethodDescriptor yX3_secret.desc).map (fun d => d.parameters.length) = some 4 := by decide +kernel
set_option maxHeartbeats 4000000 in
set_option maxRecDepth 100000 in
theorem c_X3_secret_n (l : Launch) (D : va_G) (cI cS : ClassId) (h sa p0 aa ab q0 q1 q2 q3 b0 b1 b2 b3 p1 p2 p3 p4 : Nat) (sf : Nat → Option Nat) (old rd tr lf : Int32) (ask shw : Nat → Int32) (an pn gr : Int32) (kd pl wt : Nat → Int32) (ban bpn bgr : Int32) (bkd bpl bwt al wo fi ni : Nat → Int32) (pa sh ln i nn : Int32) (hso : sh < 0 ∨ nI 4 ≤ sh) : MMi l yX3_secret wsX3_secret { frames := 4, cells := 0, slots := 0, locals := 90 } D cI cS (wL17 cI cS h sa p0 aa ab q0 b0 q0 q1 q2 q3 b0 b1 b2 b3 p1 p2 p3 p4 sf old rd tr lf ask shw an pn gr kd pl wt ban bpn bgr bkd bpl bwt al wo fi ni pa) [.ref h, .int sh, .int ln, .int i, .int nn] fX3_secret_n.1 (wL17 cI cS h sa p0 aa ab q0 b0 q0 q1 q2 q3 b0 b1 b2 b3 p1 p2 p3 p4 sf old rd tr fX3_secret_n.2 ask shw an pn gr kd pl wt ban bpn bgr bkd bpl bwt al wo fi ni pa) := by
  refine kEnterM (cc := cX3_secret) (maxL := 8) (ret := (some .int)) (by decide) rfl (Nat.le_of_ble_eq_true rfl) ?_
  intro p e s m below meth c ls Qf hQ hx hb hml hr hlocks hown hts hK hP hD hS hl
  have hown : s.vm.findClass RX3 = some m.cls := hown
  have hl : lv_has ls 8 [(0, .ref h), (1, .int sh), (2, .int ln), (3, .int i), (4, .int nn)] := hl
  generalize kA (wL17 cI cS h sa p0 aa ab q0 b0 q0 q1 q2 q3 b0 b1 b2 b3 p1 p2 p3 p4 sf old rd tr lf ask shw an pn gr kd pl wt ban bpn bgr bkd bpl bwt al wo fi ni pa) = A at hQ hD hS
  refine lv_aload_n hx hb dX3_secret_0 rfl (lv_at hl 0 rfl) ?_
  refine lv_iconst (v := 0) hx hb dX3_secret_1 (by decide) ?_
  refine va_put (D := D) (ci := 3) (v := .int 0) (ty := tyX3 9) (C := RX3) (T := TX3) (N := 10) hx hb hts (fun _ h => List.mem_cons_of_mem _ (List.mem_append_left _ (List.mem_append_left _ (List.mem_append_right _ h)))) tyX3 tyX3_ok nmX3 hown hK.1 hP hD hS 0 rfl rfl 9 (by decide) (hts (.fieldLink RX3 45 "LieNights" "lastFault" "I") (List.mem_of_getElem? (i := 1) rfl)) (fun _ h9 => h9) rfl (tyX3_ok 9 (by decide)) rfl rfl (Nat.le_of_ble_eq_true rfl) dX3_secret_2 (fun H locs hP hD hS => ?_)
  have hP : va_P D vwCl (wL17 cI cS h sa p0 aa ab q0 b0 q0 q1 q2 q3 b0 b1 b2 b3 p1 p2 p3 p4 sf old rd tr 0 ask shw an pn gr kd pl wt ban bpn bgr bkd bpl bwt al wo fi ni pa) H := hP
  have hD : va_D A (wL17 cI cS h sa p0 aa ab q0 b0 q0 q1 q2 q3 b0 b1 b2 b3 p1 p2 p3 p4 sf old rd tr 0 ask shw an pn gr kd pl wt ban bpn bgr bkd bpl bwt al wo fi ni pa) := hD
  refine lv_aload_n hx hb dX3_secret_5 rfl (lv_at hl 0 rfl) ?_
  refine lv_iload_n hx hb dX3_secret_6 rfl (lv_at hl 1 rfl) ?_
  refine kPq (va_runV (As := [.int sh]) (rest := []) ⟨hx, hb, hml, hown, hts⟩ (c_X3_sheetOf_n l D cI cS h sa p0 aa ab q0 b0 old rd tr 0 sf sh hso) (cwV 1 hts gX3_secret_X3_sheetOf rfl rfl rfl q_X3_sheetOf ⟨Nat.le_of_ble_eq_true rfl, Nat.le_of_ble_eq_true rfl⟩) (kPV hK hP [0, 1] rfl (va_recv hK.1 hP (ci := 3) (q0 := 0) rfl rfl) [.int sh]) rfl rfl hl.1 rfl (lv_room (Nat.le_of_ble_eq_true rfl)) dX3_secret_7 ⟨Nat.zero_le _, Nat.zero_le _⟩) ?_
  refine lv_astoreN (lv' := [(5, .null), (0, .ref h), (1, .int sh), (2, .int ln), (3, .int i), (4, .int nn)]) hx hb dX3_secret_10 hl (by decide) rfl (fun ls hl => ?_)
  refine lv_aloadN hx hb dX3_secret_12 (lv_at hl 0 rfl) ?_
  refine lv_ifnonnullN hx hb dX3_secret_14 ?_
  refine lv_iconst (v := (-1)) hx hb dX3_secret_17 (by decide) ?_
  have hR1 : (fX3_secret_n ) = ((-1), 0) := rfl
  rw [hQ]
  exact W.iret (v := (-1)) hx hb hr (fun t ht hW => ⟨⟨_, (), rfl, (by show _ = _; rw [hR1]), (by show va_P D vwCl _ t.heap; rw [hR1, ht]; exact hP)⟩, hS.F ht⟩) hS.2.2 dX3_secret_18

def fX3_secret_s (ban bpn bgr : Int32) (bkd bpl bwt : Nat → Int32) (la le : Int32) (ce : Nat → Int32) (ln i nn : Int32) : Int32 × Int32 × Int32 × Int32 × Int32 × (Nat → Int32) × (Nat → Int32) × (Nat → Int32) := (if (fX3_within ln 2) = 0 then ((-2), 0, ban, bpn, bgr, bkd, bpl, bwt) else (if (fX2_faultAs la ln) = 0 then (if (0 : Int32) ≤ nn then (if (fX2_hasCells le i nn) = 0 then (((-10) - 3), 3, ban, bpn, bgr, bkd, bpl, bwt) else (if (fX1_readText bgr bkd bpl bwt ce nn.toNatClampNeg i nn).1 = (-1) then (((-100) - (fX1_readText bgr bkd bpl bwt ce nn.toNatClampNeg i nn).1), 0, (fX1_readText bgr bkd bpl bwt ce nn.toNatClampNeg i nn).2.1, (fX1_readText bgr bkd bpl bwt ce nn.toNatClampNeg i nn).2.2.1, (fX1_readText bgr bkd bpl bwt ce nn.toNatClampNeg i nn).2.2.2.1, (fX1_readText bgr bkd bpl bwt ce nn.toNatClampNeg i nn).2.2.2.2.1, (fX1_readText bgr bkd bpl bwt ce nn.toNatClampNeg i nn).2.2.2.2.2.1, (fX1_readText bgr bkd bpl bwt ce nn.toNatClampNeg i nn).2.2.2.2.2.2) else (((-100) - (fX1_readText bgr bkd bpl bwt ce nn.toNatClampNeg i nn).1), 0, (fX1_readText bgr bkd bpl bwt ce nn.toNatClampNeg i nn).2.1, (fX1_readText bgr bkd bpl bwt ce nn.toNatClampNeg i nn).2.2.1, (fX1_readText bgr bkd bpl bwt ce nn.toNatClampNeg i nn).2.2.2.1, (fX1_readText bgr bkd bpl bwt ce nn.toNatClampNeg i nn).2.2.2.2.1, (fX1_readText bgr bkd bpl bwt ce nn.toNatClampNeg i nn).2.2.2.2.2.1, (fX1_readText bgr bkd bpl bwt ce nn.toNatClampNeg i nn).2.2.2.2.2.2))) else (((-10) - 4), 4, ban, bpn, bgr, bkd, bpl, bwt)) else (((-10) - (fX2_faultAs la ln)), (fX2_faultAs la ln), ban, bpn, bgr, bkd, bpl, bwt)))
set_option maxHeartbeats 4000000 in
set_option maxRecDepth 100000 in
theorem c_X3_secret_s (l : Launch) (D : va_G) (cI cS : ClassId) (h sa p0 aa ab q0 q1 q2 q3 b0 b1 b2 b3 p1 p2 p3 p4 j0 j1 : Nat) (sf : Nat → Option Nat) (old rd tr lf : Int32) (ask shw : Nat → Int32) (an pn gr : Int32) (kd pl wt : Nat → Int32) (ban bpn bgr : Int32) (bkd bpl bwt al wo fi ni : Nat → Int32) (pa la le : Int32) (ce : Nat → Int32) (Le : Nat) (sh ln i nn : Int32) (hs0 : ¬ sh < 0) (hs1 : ¬ nI 4 ≤ sh) (hsj : sf sh.toNatClampNeg = some j0) (hle : le = nI Le) (hLe : Le ≤ 60) (hno : ¬ (fX3_within ln 2) = 0 → (fX2_faultAs la ln) = 0 → (0 : Int32) ≤ nn → ¬ (fX2_hasCells le i nn) = 0 → ¬ (fX1_readText bgr bkd bpl bwt ce nn.toNatClampNeg i nn).1 = (-1)) : MMi l yX3_secret wsX3_secret { frames := 4, cells := 0, slots := 0, locals := 90 } D cI cS (wL19 cI cS h sa p0 aa ab q0 b0 q0 q1 q2 q3 b0 b1 b2 b3 p1 p2 p3 p4 j0 j1 sf old rd tr lf ask shw an pn gr kd pl wt ban bpn bgr bkd bpl bwt al wo fi ni pa la le ce) [.ref h, .int sh, .int ln, .int i, .int nn] ((fX3_secret_s ban bpn bgr bkd bpl bwt la le ce ln i nn).1) (wL19 cI cS h sa p0 aa ab q0 b0 q0 q1 q2 q3 b0 b1 b2 b3 p1 p2 p3 p4 j0 j1 sf old rd tr ((fX3_secret_s ban bpn bgr bkd bpl bwt la le ce ln i nn).2.1) ask shw an pn gr kd pl wt ((fX3_secret_s ban bpn bgr bkd bpl bwt la le ce ln i nn).2.2.1) ((fX3_secret_s ban bpn bgr bkd bpl bwt la le ce ln i nn).2.2.2.1) ((fX3_secret_s ban bpn bgr bkd bpl bwt la le ce ln i nn).2.2.2.2.1) ((fX3_secret_s ban bpn bgr bkd bpl bwt la le ce ln i nn).2.2.2.2.2.1) ((fX3_secret_s ban bpn bgr bkd bpl bwt la le ce ln i nn).2.2.2.2.2.2.1) ((fX3_secret_s ban bpn bgr bkd bpl bwt la le ce ln i nn).2.2.2.2.2.2.2) al wo fi ni pa la le ce) := by
  refine kEnterM (cc := cX3_secret) (maxL := 8) (ret := (some .int)) (by decide) rfl (Nat.le_of_ble_eq_true rfl) ?_
  intro p e s m below meth c ls Qf hQ hx hb hml hr hlocks hown hts hK hP hD hS hl
  have hown : s.vm.findClass RX3 = some m.cls := hown
  have hl : lv_has ls 8 [(0, .ref h), (1, .int sh), (2, .int ln), (3, .int i), (4, .int nn)] := hl
  generalize kA (wL19 cI cS h sa p0 aa ab q0 b0 q0 q1 q2 q3 b0 b1 b2 b3 p1 p2 p3 p4 j0 j1 sf old rd tr lf ask shw an pn gr kd pl wt ban bpn bgr bkd bpl bwt al wo fi ni pa la le ce) = A at hQ hD hS
  refine lv_aload_n hx hb dX3_secret_0 rfl (lv_at hl 0 rfl) ?_
  refine lv_iconst (v := 0) hx hb dX3_secret_1 (by decide) ?_
  refine va_put (D := D) (ci := 3) (v := .int 0) (ty := tyX3 9) (C := RX3) (T := TX3) (N := 10) hx hb hts (fun _ h => List.mem_cons_of_mem _ (List.mem_append_left _ (List.mem_append_left _ (List.mem_append_right _ h)))) tyX3 tyX3_ok nmX3 hown hK.1 hP hD hS 0 rfl rfl 9 (by decide) (hts (.fieldLink RX3 45 "LieNights" "lastFault" "I") (List.mem_of_getElem? (i := 1) rfl)) (fun _ h9 => h9) rfl (tyX3_ok 9 (by decide)) rfl rfl (Nat.le_of_ble_eq_true rfl) dX3_secret_2 (fun H locs hP hD hS => ?_)
  have hP : va_P D vwCl (wL19 cI cS h sa p0 aa ab q0 b0 q0 q1 q2 q3 b0 b1 b2 b3 p1 p2 p3 p4 j0 j1 sf old rd tr 0 ask shw an pn gr kd pl wt ban bpn bgr bkd bpl bwt al wo fi ni pa la le ce) H := hP
  have hD : va_D A (wL19 cI cS h sa p0 aa ab q0 b0 q0 q1 q2 q3 b0 b1 b2 b3 p1 p2 p3 p4 j0 j1 sf old rd tr 0 ask shw an pn gr kd pl wt ban bpn bgr bkd bpl bwt al wo fi ni pa la le ce) := hD
  refine lv_aload_n hx hb dX3_secret_5 rfl (lv_at hl 0 rfl) ?_
  refine lv_iload_n hx hb dX3_secret_6 rfl (lv_at hl 1 rfl) ?_
  refine kPq (va_runV (As := [.int sh]) (rest := []) ⟨hx, hb, hml, hown, hts⟩ (c_X3_sheetOf_s l D cI cS h sa p0 aa ab q0 b0 old rd tr 0 sf sh hs0 hs1) (cwV 1 hts gX3_secret_X3_sheetOf rfl rfl rfl q_X3_sheetOf ⟨Nat.le_of_ble_eq_true rfl, Nat.le_of_ble_eq_true rfl⟩) (kPV hK hP [0, 1] rfl (va_recv hK.1 hP (ci := 3) (q0 := 0) rfl rfl) [.int sh]) rfl rfl hl.1 rfl (lv_room (Nat.le_of_ble_eq_true rfl)) dX3_secret_7 ⟨Nat.zero_le _, Nat.zero_le _⟩) ?_
  rw [hsj]
  refine lv_astore (lv' := [(5, .ref j0), (0, .ref h), (1, .int sh), (2, .int ln), (3, .int i), (4, .int nn)]) hx hb dX3_secret_10 hl (by decide) rfl (fun ls hl => ?_)
  refine lv_aload hx hb dX3_secret_12 (lv_at hl 0 rfl) ?_
  refine lv_ifnonnull (tgt := 19) hx hb dX3_secret_14 (by decide) ?_
  refine lv_iload_n hx hb dX3_secret_19 rfl (lv_at hl 3 rfl) ?_
  refine lv_iconst (v := 2) hx hb dX3_secret_20 (by decide) ?_
  refine kPi (va_runS (As := [.int ln, .int 2]) (rest := []) ⟨hx, hb, hml, hown, hts⟩ (c_X3_within l D cI cS ln 2) (va_cwS 2 hts gX3_secret_X3_within rfl rfl rfl q_X3_within.2 ⟨Nat.le_of_ble_eq_true rfl, Nat.le_of_ble_eq_true rfl⟩) (kPS hK hP [] rfl [.int ln, .int 2]) rfl rfl hl.1 rfl (lv_room (Nat.le_of_ble_eq_true rfl)) dX3_secret_21 ⟨Nat.zero_le _, Nat.zero_le _⟩) ?_
  refine lv_if_ne (tgt := 30) hx hb dX3_secret_24 (by decide) (fun c24 => ?_) (fun c24 => ?_)
  · skip
    refine lv_aload hx hb dX3_secret_30 (lv_at hl 0 rfl) ?_
    refine lv_iload_n hx hb dX3_secret_32 rfl (lv_at hl 3 rfl) ?_
    refine kPi (va_runV (As := [.int ln]) (rest := []) ⟨hx, hb, hml, hown, hts⟩ (c_X2_faultAs l D cI cS j0 j1 la le ce ln) (cwV 1 hts gX3_secret_X2_faultAs rfl rfl rfl q_X2_faultAs ⟨Nat.le_of_ble_eq_true rfl, Nat.le_of_ble_eq_true rfl⟩) (kPV hK hP [17, 18] rfl (va_recv hK.1 hP (ci := 2) (q0 := 17) rfl rfl) [.int ln]) rfl rfl hl.1 rfl (lv_room (Nat.le_of_ble_eq_true rfl)) dX3_secret_33 ⟨Nat.zero_le _, Nat.zero_le _⟩) ?_
    refine lv_istore (lv' := [(6, .int (fX2_faultAs la ln)), (5, .ref j0), (0, .ref h), (1, .int sh), (2, .int ln), (3, .int i), (4, .int nn)]) hx hb dX3_secret_36 hl (by decide) rfl (fun ls hl => ?_)
    refine lv_iload hx hb dX3_secret_38 (lv_at hl 0 rfl) ?_
    refine lv_if_ne (tgt := 51) hx hb dX3_secret_40 (by decide) (fun c40 => ?_) (fun c40 => ?_)
    · skip
      refine lv_iload hx hb dX3_secret_51 (lv_at hl 0 rfl) ?_
      refine lv_if_ne (tgt := 70) hx hb dX3_secret_53 (by decide) (fun c53 => ?_) (fun c53 => ?_)
      · skip
        refine lv_iload hx hb dX3_secret_70 (lv_at hl 0 rfl) ?_
        refine lv_if_eq (tgt := 82) hx hb dX3_secret_72 (by decide) (fun c72 => ?_) (fun c72 => ?_)
        · exact absurd c72 c40
        refine lv_aload_n hx hb dX3_secret_75 rfl (lv_at hl 2 rfl) ?_
        refine lv_iload hx hb dX3_secret_76 (lv_at hl 0 rfl) ?_
        refine kMi (wl' := (wL19 cI cS h sa p0 aa ab q0 b0 q0 q1 q2 q3 b0 b1 b2 b3 p1 p2 p3 p4 j0 j1 sf old rd tr (fX2_faultAs la ln) ask shw an pn gr kd pl wt ban bpn bgr bkd bpl bwt al wo fi ni pa la le ce)) (wc := (wL1 cI h sa p0 aa ab q0 b0 old rd tr 0)) (w1 := (wL1 cI h sa p0 aa ab q0 b0 old rd tr (fX2_faultAs la ln))) hP hD hS [0] rfl rfl rfl (va_runV (As := [.int (fX2_faultAs la ln)]) (rest := []) ⟨hx, hb, hml, hown, hts⟩ (c_X3_faulted l D cI cS h sa p0 aa ab q0 b0 old rd tr 0 (fX2_faultAs la ln)) (cwV 1 hts gX3_secret_X3_faulted rfl rfl rfl q_X3_faulted ⟨Nat.le_of_ble_eq_true rfl, Nat.le_of_ble_eq_true rfl⟩) (kMV hK hP hD [0] rfl rfl (va_recv hK.1 hP (ci := 3) (q0 := 0) rfl rfl) [.int (fX2_faultAs la ln)]) rfl rfl hl.1 rfl (lv_room (Nat.le_of_ble_eq_true rfl)) dX3_secret_78 ⟨Nat.zero_le _, Nat.zero_le _⟩) (fun H locs hP hD hS => ?_)
        have hR1 : (fX3_secret_s ban bpn bgr bkd bpl bwt la le ce ln i nn) = (((-10) - (fX2_faultAs la ln)), (fX2_faultAs la ln), ban, bpn, bgr, bkd, bpl, bwt) := (by unfold fX3_secret_s; rw [if_neg c24, if_neg c40])
        rw [hQ]
        exact W.iret (v := ((-10) - (fX2_faultAs la ln))) hx hb hr (fun t ht hW => ⟨⟨_, (), rfl, (by show _ = _; rw [hR1]), (by show va_P D vwCl _ t.heap; rw [hR1, ht]; exact hP)⟩, hS.F ht⟩) hS.2.2 dX3_secret_81
      exact absurd c53 c40
    refine lv_iload hx hb dX3_secret_43 (lv_at hl 6 rfl) ?_
    refine lv_if_ge (tgt := 51) hx hb dX3_secret_45 (by decide) (fun c45 => ?_) (fun c45 => ?_)
    · skip
      refine lv_iload hx hb dX3_secret_51 (lv_at hl 0 rfl) ?_
      refine lv_if_ne (tgt := 70) hx hb dX3_secret_53 (by decide) (fun c53 => ?_) (fun c53 => ?_)
      · exact absurd c40 c53
      refine lv_aload hx hb dX3_secret_56 (lv_at hl 1 rfl) ?_
      refine lv_iload_n hx hb dX3_secret_58 rfl (lv_at hl 5 rfl) ?_
      refine lv_iload hx hb dX3_secret_59 (lv_at hl 6 rfl) ?_
      refine kPi (va_runV (As := [.int i, .int nn]) (rest := []) ⟨hx, hb, hml, hown, hts⟩ (c_X2_hasCells l D cI cS j0 j1 la le ce i nn) (cwV 2 hts gX3_secret_X2_hasCells rfl rfl rfl q_X2_hasCells ⟨Nat.le_of_ble_eq_true rfl, Nat.le_of_ble_eq_true rfl⟩) (kPV hK hP [17, 18] rfl (va_recv hK.1 hP (ci := 2) (q0 := 17) rfl rfl) [.int i, .int nn]) rfl rfl hl.1 rfl (lv_room (Nat.le_of_ble_eq_true rfl)) dX3_secret_61 ⟨Nat.zero_le _, Nat.zero_le _⟩) ?_
      refine lv_if_ne (tgt := 70) hx hb dX3_secret_64 (by decide) (fun c64 => ?_) (fun c64 => ?_)
      · skip
        refine lv_iload hx hb dX3_secret_70 (lv_at hl 0 rfl) ?_
        refine lv_if_eq (tgt := 82) hx hb dX3_secret_72 (by decide) (fun c72 => ?_) (fun c72 => ?_)
        · skip
          have hh := kHas hle hLe c64
          refine lv_aload_n hx hb dX3_secret_82 rfl (lv_at hl 2 rfl) ?_
          refine va_get (D := D) (ci := 3) (v := .ref b0) (C := RX3) (T := TX3) (N := 10) hx hb hts (fun _ h => List.mem_cons_of_mem _ (List.mem_append_left _ (List.mem_append_left _ (List.mem_append_right _ h)))) hown hK.1 hP 0 rfl rfl 5 (by decide) (hts (.fieldLink RX3 38 "LieNights" "spare" "LLieNights$Secret;") (List.mem_of_getElem? (i := 2) rfl)) (fun _ h9 => h9) rfl dX3_secret_83 ?_
          refine lv_aload hx hb dX3_secret_86 (lv_at hl 1 rfl) ?_
          refine lv_iload_n hx hb dX3_secret_88 rfl (lv_at hl 5 rfl) ?_
          refine lv_iload hx hb dX3_secret_89 (lv_at hl 6 rfl) ?_
          refine kMi (wl' := (wL19 cI cS h sa p0 aa ab q0 b0 q0 q1 q2 q3 b0 b1 b2 b3 p1 p2 p3 p4 j0 j1 sf old rd tr 0 ask shw an pn gr kd pl wt ((fX1_readText bgr bkd bpl bwt ce nn.toNatClampNeg i nn).2.1) ((fX1_readText bgr bkd bpl bwt ce nn.toNatClampNeg i nn).2.2.1) ((fX1_readText bgr bkd bpl bwt ce nn.toNatClampNeg i nn).2.2.2.1) ((fX1_readText bgr bkd bpl bwt ce nn.toNatClampNeg i nn).2.2.2.2.1) ((fX1_readText bgr bkd bpl bwt ce nn.toNatClampNeg i nn).2.2.2.2.2.1) ((fX1_readText bgr bkd bpl bwt ce nn.toNatClampNeg i nn).2.2.2.2.2.2) al wo fi ni pa la le ce)) (wc := (wSecSh cI b0 b1 b2 b3 ban bpn bgr bkd bpl bwt j0 j1 la le ce)) (w1 := (wSecSh cI b0 b1 b2 b3 ((fX1_readText bgr bkd bpl bwt ce nn.toNatClampNeg i nn).2.1) ((fX1_readText bgr bkd bpl bwt ce nn.toNatClampNeg i nn).2.2.1) ((fX1_readText bgr bkd bpl bwt ce nn.toNatClampNeg i nn).2.2.2.1) ((fX1_readText bgr bkd bpl bwt ce nn.toNatClampNeg i nn).2.2.2.2.1) ((fX1_readText bgr bkd bpl bwt ce nn.toNatClampNeg i nn).2.2.2.2.2.1) ((fX1_readText bgr bkd bpl bwt ce nn.toNatClampNeg i nn).2.2.2.2.2.2) j0 j1 la le ce)) hP hD hS [8, 9, 10, 11, 17, 18] rfl rfl rfl (va_runV (As := [.ref j0, .int i, .int nn]) (rest := []) ⟨hx, hb, hml, hown, hts⟩ (c_X1_readText l D cI cS b0 b1 b2 b3 ban bpn bgr bkd bpl bwt j0 j1 la le ce nn.toNatClampNeg i nn hh.1 hh.2) (cwV 3 hts gX3_secret_X1_readText rfl rfl rfl q_X1_readText ⟨Nat.le_of_ble_eq_true rfl, Nat.le_of_ble_eq_true rfl⟩) (kMV hK hP hD [8, 9, 10, 11, 17, 18] rfl rfl (va_recv hK.1 hP (ci := 1) (q0 := 8) rfl rfl) [.ref j0, .int i, .int nn]) rfl rfl hl.1 rfl (lv_room (Nat.le_of_ble_eq_true rfl)) dX3_secret_91 ⟨Nat.zero_le _, Nat.zero_le _⟩) (fun H locs hP hD hS => ?_)
          refine lv_istore (lv' := [(7, .int ((fX1_readText bgr bkd bpl bwt ce nn.toNatClampNeg i nn).1)), (6, .int (fX2_faultAs la ln)), (5, .ref j0), (0, .ref h), (1, .int sh), (2, .int ln), (3, .int i), (4, .int nn)]) hx hb dX3_secret_94 hl (by decide) rfl (fun ls hl => ?_)
          refine lv_iload hx hb dX3_secret_96 (lv_at hl 0 rfl) ?_
          refine lv_iconst (v := (-1)) hx hb dX3_secret_98 (by decide) ?_
          refine lv_icmp_eq (tgt := 108) hx hb dX3_secret_99 (by decide) (fun c99 => ?_) (fun c99 => ?_)
          · exact absurd c99 (hno c24 c40 c45 c64)
          refine lv_bipush (v := (-100)) hx hb dX3_secret_102 (by decide) ?_
          refine lv_iload hx hb dX3_secret_104 (lv_at hl 0 rfl) ?_
          refine lv_isub hx hb dX3_secret_106 ?_
          have hR2 : (fX3_secret_s ban bpn bgr bkd bpl bwt la le ce ln i nn) = (((-100) - (fX1_readText bgr bkd bpl bwt ce nn.toNatClampNeg i nn).1), 0, (fX1_readText bgr bkd bpl bwt ce nn.toNatClampNeg i nn).2.1, (fX1_readText bgr bkd bpl bwt ce nn.toNatClampNeg i nn).2.2.1, (fX1_readText bgr bkd bpl bwt ce nn.toNatClampNeg i nn).2.2.2.1, (fX1_readText bgr bkd bpl bwt ce nn.toNatClampNeg i nn).2.2.2.2.1, (fX1_readText bgr bkd bpl bwt ce nn.toNatClampNeg i nn).2.2.2.2.2.1, (fX1_readText bgr bkd bpl bwt ce nn.toNatClampNeg i nn).2.2.2.2.2.2) := (by unfold fX3_secret_s; rw [if_neg c24, if_pos c40, if_pos c45, if_neg c64, if_neg c99])
          rw [hQ]
          exact W.iret (v := ((-100) - (fX1_readText bgr bkd bpl bwt ce nn.toNatClampNeg i nn).1)) hx hb hr (fun t ht hW => ⟨⟨_, (), rfl, (by show _ = _; rw [hR2]), (by show va_P D vwCl _ t.heap; rw [hR2, ht]; exact hP)⟩, hS.F ht⟩) hS.2.2 dX3_secret_107
        exact absurd c40 c72
      refine lv_iconst (v := 3) hx hb dX3_secret_67 (by decide) ?_
      refine lv_istore (lv' := [(6, .int 3), (5, .ref j0), (0, .ref h), (1, .int sh), (2, .int ln), (3, .int i), (4, .int nn)]) hx hb dX3_secret_68 hl (by decide) rfl (fun ls hl => ?_)
      refine lv_iload hx hb dX3_secret_70 (lv_at hl 0 rfl) ?_
      refine lv_if_eq (tgt := 82) hx hb dX3_secret_72 (by decide) (fun c72 => ?_) (fun c72 => ?_)
      · exact absurd c72 (by decide)
      refine lv_aload_n hx hb dX3_secret_75 rfl (lv_at hl 2 rfl) ?_
      refine lv_iload hx hb dX3_secret_76 (lv_at hl 0 rfl) ?_
      refine kMi (wl' := (wL19 cI cS h sa p0 aa ab q0 b0 q0 q1 q2 q3 b0 b1 b2 b3 p1 p2 p3 p4 j0 j1 sf old rd tr 3 ask shw an pn gr kd pl wt ban bpn bgr bkd bpl bwt al wo fi ni pa la le ce)) (wc := (wL1 cI h sa p0 aa ab q0 b0 old rd tr 0)) (w1 := (wL1 cI h sa p0 aa ab q0 b0 old rd tr 3)) hP hD hS [0] rfl rfl rfl (va_runV (As := [.int 3]) (rest := []) ⟨hx, hb, hml, hown, hts⟩ (c_X3_faulted l D cI cS h sa p0 aa ab q0 b0 old rd tr 0 3) (cwV 1 hts gX3_secret_X3_faulted rfl rfl rfl q_X3_faulted ⟨Nat.le_of_ble_eq_true rfl, Nat.le_of_ble_eq_true rfl⟩) (kMV hK hP hD [0] rfl rfl (va_recv hK.1 hP (ci := 3) (q0 := 0) rfl rfl) [.int 3]) rfl rfl hl.1 rfl (lv_room (Nat.le_of_ble_eq_true rfl)) dX3_secret_78 ⟨Nat.zero_le _, Nat.zero_le _⟩) (fun H locs hP hD hS => ?_)
      have hR3 : (fX3_secret_s ban bpn bgr bkd bpl bwt la le ce ln i nn) = (((-10) - 3), 3, ban, bpn, bgr, bkd, bpl, bwt) := (by unfold fX3_secret_s; rw [if_neg c24, if_pos c40, if_pos c45, if_pos c64])
      rw [hQ]
      exact W.iret (v := ((-10) - 3)) hx hb hr (fun t ht hW => ⟨⟨_, (), rfl, (by show _ = _; rw [hR3]), (by show va_P D vwCl _ t.heap; rw [hR3, ht]; exact hP)⟩, hS.F ht⟩) hS.2.2 dX3_secret_81
    refine lv_iconst (v := 4) hx hb dX3_secret_48 (by decide) ?_
    refine lv_istore (lv' := [(6, .int 4), (5, .ref j0), (0, .ref h), (1, .int sh), (2, .int ln), (3, .int i), (4, .int nn)]) hx hb dX3_secret_49 hl (by decide) rfl (fun ls hl => ?_)
    refine lv_iload hx hb dX3_secret_51 (lv_at hl 0 rfl) ?_
    refine lv_if_ne (tgt := 70) hx hb dX3_secret_53 (by decide) (fun c53 => ?_) (fun c53 => ?_)
    · skip
      refine lv_iload hx hb dX3_secret_70 (lv_at hl 0 rfl) ?_
      refine lv_if_eq (tgt := 82) hx hb dX3_secret_72 (by decide) (fun c72 => ?_) (fun c72 => ?_)
      · exact absurd c72 (by decide)
      refine lv_aload_n hx hb dX3_secret_75 rfl (lv_at hl 2 rfl) ?_
      refine lv_iload hx hb dX3_secret_76 (lv_at hl 0 rfl) ?_
      refine kMi (wl' := (wL19 cI cS h sa p0 aa ab q0 b0 q0 q1 q2 q3 b0 b1 b2 b3 p1 p2 p3 p4 j0 j1 sf old rd tr 4 ask shw an pn gr kd pl wt ban bpn bgr bkd bpl bwt al wo fi ni pa la le ce)) (wc := (wL1 cI h sa p0 aa ab q0 b0 old rd tr 0)) (w1 := (wL1 cI h sa p0 aa ab q0 b0 old rd tr 4)) hP hD hS [0] rfl rfl rfl (va_runV (As := [.int 4]) (rest := []) ⟨hx, hb, hml, hown, hts⟩ (c_X3_faulted l D cI cS h sa p0 aa ab q0 b0 old rd tr 0 4) (cwV 1 hts gX3_secret_X3_faulted rfl rfl rfl q_X3_faulted ⟨Nat.le_of_ble_eq_true rfl, Nat.le_of_ble_eq_true rfl⟩) (kMV hK hP hD [0] rfl rfl (va_recv hK.1 hP (ci := 3) (q0 := 0) rfl rfl) [.int 4]) rfl rfl hl.1 rfl (lv_room (Nat.le_of_ble_eq_true rfl)) dX3_secret_78 ⟨Nat.zero_le _, Nat.zero_le _⟩) (fun H locs hP hD hS => ?_)
      have hR4 : (fX3_secret_s ban bpn bgr bkd bpl bwt la le ce ln i nn) = (((-10) - 4), 4, ban, bpn, bgr, bkd, bpl, bwt) := (by unfold fX3_secret_s; rw [if_neg c24, if_pos c40, if_neg c45])
      rw [hQ]
      exact W.iret (v := ((-10) - 4)) hx hb hr (fun t ht hW => ⟨⟨_, (), rfl, (by show _ = _; rw [hR4]), (by show va_P D vwCl _ t.heap; rw [hR4, ht]; exact hP)⟩, hS.F ht⟩) hS.2.2 dX3_secret_81
    exact absurd c53 (by decide)
  refine lv_bipush (v := (-2)) hx hb dX3_secret_27 (by decide) ?_
  have hR5 : (fX3_secret_s ban bpn bgr bkd bpl bwt la le ce ln i nn) = ((-2), 0, ban, bpn, bgr, bkd, bpl, bwt) := (by unfold fX3_secret_s; rw [if_pos c24])
  rw [hQ]
  exact W.iret (v := (-2)) hx hb hr (fun t ht hW => ⟨⟨_, (), rfl, (by show _ = _; rw [hR5]), (by show va_P D vwCl _ t.heap; rw [hR5, ht]; exact hP)⟩, hS.F ht⟩) hS.2.2 dX3_secret_29

def fX3_secret_k (bgr : Int32) (bkd bpl bwt ce : Nat → Int32) (i nn : Int32) : Int32 × Int32 × Int32 × Int32 × Int32 × Int32 × Int32 × (Nat → Int32) × (Nat → Int32) × (Nat → Int32) := ((fX1_answers ((fX1_readText bgr bkd bpl bwt ce nn.toNatClampNeg i nn).2.1)), 0, 0, 1, (fX1_readText bgr bkd bpl bwt ce nn.toNatClampNeg i nn).2.1, (fX1_readText bgr bkd bpl bwt ce nn.toNatClampNeg i nn).2.2.1, (fX1_readText bgr bkd bpl bwt ce nn.toNatClampNeg i nn).2.2.2.1, (fX1_readText bgr bkd bpl bwt ce nn.toNatClampNeg i nn).2.2.2.2.1, (fX1_readText bgr bkd bpl bwt ce nn.toNatClampNeg i nn).2.2.2.2.2.1, (fX1_readText bgr bkd bpl bwt ce nn.toNatClampNeg i nn).2.2.2.2.2.2)
set_option maxHeartbeats 4000000 in
set_option maxRecDepth 100000 in
theorem c_X3_secret_k (l : Launch) (D : va_G) (cI cS : ClassId) (h sa p0 aa ab q0 q1 q2 q3 b0 b1 b2 b3 p1 p2 p3 p4 j0 j1 : Nat) (sf : Nat → Option Nat) (old rd tr lf : Int32) (ask shw : Nat → Int32) (an pn gr : Int32) (kd pl wt : Nat → Int32) (ban bpn bgr : Int32) (bkd bpl bwt al wo fi ni : Nat → Int32) (pa la le : Int32) (ce : Nat → Int32) (Le : Nat) (sh ln i nn : Int32) (hs0 : ¬ sh < 0) (hs1 : ¬ nI 4 ≤ sh) (hsj : sf sh.toNatClampNeg = some j0) (hle : le = nI Le) (hLe : Le ≤ 60) (g1 : ¬ (fX3_within ln 2) = 0) (g2 : (fX2_faultAs la ln) = 0) (g3 : (0 : Int32) ≤ nn) (g4 : ¬ (fX2_hasCells le i nn) = 0) (g5 : (fX1_readText bgr bkd bpl bwt ce nn.toNatClampNeg i nn).1 = (-1)) : MMi l yX3_secret wsX3_secret { frames := 4, cells := 0, slots := 0, locals := 90 } D cI cS (wL19 cI cS h sa p0 aa ab q0 b0 q0 q1 q2 q3 b0 b1 b2 b3 p1 p2 p3 p4 j0 j1 sf old rd tr lf ask shw an pn gr kd pl wt ban bpn bgr bkd bpl bwt al wo fi ni pa la le ce) [.ref h, .int sh, .int ln, .int i, .int nn] ((fX3_secret_k bgr bkd bpl bwt ce i nn).1) (wL19 cI cS h sa p0 aa ab b0 q0 q0 q1 q2 q3 b0 b1 b2 b3 p1 p2 p3 p4 j0 j1 sf ((fX3_secret_k bgr bkd bpl bwt ce i nn).2.2.2.1) ((fX3_secret_k bgr bkd bpl bwt ce i nn).2.2.1) tr ((fX3_secret_k bgr bkd bpl bwt ce i nn).2.1) ask shw an pn gr kd pl wt ((fX3_secret_k bgr bkd bpl bwt ce i nn).2.2.2.2.1) ((fX3_secret_k bgr bkd bpl bwt ce i nn).2.2.2.2.2.1) ((fX3_secret_k bgr bkd bpl bwt ce i nn).2.2.2.2.2.2.1) ((fX3_secret_k bgr bkd bpl bwt ce i nn).2.2.2.2.2.2.2.1) ((fX3_secret_k bgr bkd bpl bwt ce i nn).2.2.2.2.2.2.2.2.1) ((fX3_secret_k bgr bkd bpl bwt ce i nn).2.2.2.2.2.2.2.2.2) al wo fi ni pa la le ce) := by
  refine kEnterM (cc := cX3_secret) (maxL := 8) (ret := (some .int)) (by decide) rfl (Nat.le_of_ble_eq_true rfl) ?_
  intro p e s m below meth c ls Qf hQ hx hb hml hr hlocks hown hts hK hP hD hS hl
  have hown : s.vm.findClass RX3 = some m.cls := hown
  have hl : lv_has ls 8 [(0, .ref h), (1, .int sh), (2, .int ln), (3, .int i), (4, .int nn)] := hl
  generalize kA (wL19 cI cS h sa p0 aa ab q0 b0 q0 q1 q2 q3 b0 b1 b2 b3 p1 p2 p3 p4 j0 j1 sf old rd tr lf ask shw an pn gr kd pl wt ban bpn bgr bkd bpl bwt al wo fi ni pa la le ce) = A at hQ hD hS
  refine lv_aload_n hx hb dX3_secret_0 rfl (lv_at hl 0 rfl) ?_
  refine lv_iconst (v := 0) hx hb dX3_secret_1 (by decide) ?_
  refine va_put (D := D) (ci := 3) (v := .int 0) (ty := tyX3 9) (C := RX3) (T := TX3) (N := 10) hx hb hts (fun _ h => List.mem_cons_of_mem _ (List.mem_append_left _ (List.mem_append_left _ (List.mem_append_right _ h)))) tyX3 tyX3_ok nmX3 hown hK.1 hP hD hS 0 rfl rfl 9 (by decide) (hts (.fieldLink RX3 45 "LieNights" "lastFault" "I") (List.mem_of_getElem? (i := 1) rfl)) (fun _ h9 => h9) rfl (tyX3_ok 9 (by decide)) rfl rfl (Nat.le_of_ble_eq_true rfl) dX3_secret_2 (fun H locs hP hD hS => ?_)
  have hP : va_P D vwCl (wL19 cI cS h sa p0 aa ab q0 b0 q0 q1 q2 q3 b0 b1 b2 b3 p1 p2 p3 p4 j0 j1 sf old rd tr 0 ask shw an pn gr kd pl wt ban bpn bgr bkd bpl bwt al wo fi ni pa la le ce) H := hP
  have hD : va_D A (wL19 cI cS h sa p0 aa ab q0 b0 q0 q1 q2 q3 b0 b1 b2 b3 p1 p2 p3 p4 j0 j1 sf old rd tr 0 ask shw an pn gr kd pl wt ban bpn bgr bkd bpl bwt al wo fi ni pa la le ce) := hD
  refine lv_aload_n hx hb dX3_secret_5 rfl (lv_at hl 0 rfl) ?_
  refine lv_iload_n hx hb dX3_secret_6 rfl (lv_at hl 1 rfl) ?_
  refine kPq (va_runV (As := [.int sh]) (rest := []) ⟨hx, hb, hml, hown, hts⟩ (c_X3_sheetOf_s l D cI cS h sa p0 aa ab q0 b0 old rd tr 0 sf sh hs0 hs1) (cwV 1 hts gX3_secret_X3_sheetOf rfl rfl rfl q_X3_sheetOf ⟨Nat.le_of_ble_eq_true rfl, Nat.le_of_ble_eq_true rfl⟩) (kPV hK hP [0, 1] rfl (va_recv hK.1 hP (ci := 3) (q0 := 0) rfl rfl) [.int sh]) rfl rfl hl.1 rfl (lv_room (Nat.le_of_ble_eq_true rfl)) dX3_secret_7 ⟨Nat.zero_le _, Nat.zero_le _⟩) ?_
  rw [hsj]
  refine lv_astore (lv' := [(5, .ref j0), (0, .ref h), (1, .int sh), (2, .int ln), (3, .int i), (4, .int nn)]) hx hb dX3_secret_10 hl (by decide) rfl (fun ls hl => ?_)
  refine lv_aload hx hb dX3_secret_12 (lv_at hl 0 rfl) ?_
  refine lv_ifnonnull (tgt := 19) hx hb dX3_secret_14 (by decide) ?_
  refine lv_iload_n hx hb dX3_secret_19 rfl (lv_at hl 3 rfl) ?_
  refine lv_iconst (v := 2) hx hb dX3_secret_20 (by decide) ?_
  refine kPi (va_runS (As := [.int ln, .int 2]) (rest := []) ⟨hx, hb, hml, hown, hts⟩ (c_X3_within l D cI cS ln 2) (va_cwS 2 hts gX3_secret_X3_within rfl rfl rfl q_X3_within.2 ⟨Nat.le_of_ble_eq_true rfl, Nat.le_of_ble_eq_true rfl⟩) (kPS hK hP [] rfl [.int ln, .int 2]) rfl rfl hl.1 rfl (lv_room (Nat.le_of_ble_eq_true rfl)) dX3_secret_21 ⟨Nat.zero_le _, Nat.zero_le _⟩) ?_
  refine lv_if_ne (tgt := 30) hx hb dX3_secret_24 (by decide) (fun c24 => ?_) (fun c24 => ?_)
  · skip
    refine lv_aload hx hb dX3_secret_30 (lv_at hl 0 rfl) ?_
    refine lv_iload_n hx hb dX3_secret_32 rfl (lv_at hl 3 rfl) ?_
    refine kPi (va_runV (As := [.int ln]) (rest := []) ⟨hx, hb, hml, hown, hts⟩ (c_X2_faultAs l D cI cS j0 j1 la le ce ln) (cwV 1 hts gX3_secret_X2_faultAs rfl rfl rfl q_X2_faultAs ⟨Nat.le_of_ble_eq_true rfl, Nat.le_of_ble_eq_true rfl⟩) (kPV hK hP [17, 18] rfl (va_recv hK.1 hP (ci := 2) (q0 := 17) rfl rfl) [.int ln]) rfl rfl hl.1 rfl (lv_room (Nat.le_of_ble_eq_true rfl)) dX3_secret_33 ⟨Nat.zero_le _, Nat.zero_le _⟩) ?_
    refine lv_istore (lv' := [(6, .int (fX2_faultAs la ln)), (5, .ref j0), (0, .ref h), (1, .int sh), (2, .int ln), (3, .int i), (4, .int nn)]) hx hb dX3_secret_36 hl (by decide) rfl (fun ls hl => ?_)
    refine lv_iload hx hb dX3_secret_38 (lv_at hl 0 rfl) ?_
    refine lv_if_ne (tgt := 51) hx hb dX3_secret_40 (by decide) (fun c40 => ?_) (fun c40 => ?_)
    · exact absurd g2 c40
    refine lv_iload hx hb dX3_secret_43 (lv_at hl 6 rfl) ?_
    refine lv_if_ge (tgt := 51) hx hb dX3_secret_45 (by decide) (fun c45 => ?_) (fun c45 => ?_)
    · skip
      refine lv_iload hx hb dX3_secret_51 (lv_at hl 0 rfl) ?_
      refine lv_if_ne (tgt := 70) hx hb dX3_secret_53 (by decide) (fun c53 => ?_) (fun c53 => ?_)
      · exact absurd g2 c53
      refine lv_aload hx hb dX3_secret_56 (lv_at hl 1 rfl) ?_
      refine lv_iload_n hx hb dX3_secret_58 rfl (lv_at hl 5 rfl) ?_
      refine lv_iload hx hb dX3_secret_59 (lv_at hl 6 rfl) ?_
      refine kPi (va_runV (As := [.int i, .int nn]) (rest := []) ⟨hx, hb, hml, hown, hts⟩ (c_X2_hasCells l D cI cS j0 j1 la le ce i nn) (cwV 2 hts gX3_secret_X2_hasCells rfl rfl rfl q_X2_hasCells ⟨Nat.le_of_ble_eq_true rfl, Nat.le_of_ble_eq_true rfl⟩) (kPV hK hP [17, 18] rfl (va_recv hK.1 hP (ci := 2) (q0 := 17) rfl rfl) [.int i, .int nn]) rfl rfl hl.1 rfl (lv_room (Nat.le_of_ble_eq_true rfl)) dX3_secret_61 ⟨Nat.zero_le _, Nat.zero_le _⟩) ?_
      refine lv_if_ne (tgt := 70) hx hb dX3_secret_64 (by decide) (fun c64 => ?_) (fun c64 => ?_)
      · skip
        refine lv_iload hx hb dX3_secret_70 (lv_at hl 0 rfl) ?_
        refine lv_if_eq (tgt := 82) hx hb dX3_secret_72 (by decide) (fun c72 => ?_) (fun c72 => ?_)
        · skip
          have hh := kHas hle hLe g4
          refine lv_aload_n hx hb dX3_secret_82 rfl (lv_at hl 2 rfl) ?_
          refine va_get (D := D) (ci := 3) (v := .ref b0) (C := RX3) (T := TX3) (N := 10) hx hb hts (fun _ h => List.mem_cons_of_mem _ (List.mem_append_left _ (List.mem_append_left _ (List.mem_append_right _ h)))) hown hK.1 hP 0 rfl rfl 5 (by decide) (hts (.fieldLink RX3 38 "LieNights" "spare" "LLieNights$Secret;") (List.mem_of_getElem? (i := 2) rfl)) (fun _ h9 => h9) rfl dX3_secret_83 ?_
          refine lv_aload hx hb dX3_secret_86 (lv_at hl 1 rfl) ?_
          refine lv_iload_n hx hb dX3_secret_88 rfl (lv_at hl 5 rfl) ?_
          refine lv_iload hx hb dX3_secret_89 (lv_at hl 6 rfl) ?_
          refine kMi (wl' := (wL19 cI cS h sa p0 aa ab q0 b0 q0 q1 q2 q3 b0 b1 b2 b3 p1 p2 p3 p4 j0 j1 sf old rd tr 0 ask shw an pn gr kd pl wt ((fX1_readText bgr bkd bpl bwt ce nn.toNatClampNeg i nn).2.1) ((fX1_readText bgr bkd bpl bwt ce nn.toNatClampNeg i nn).2.2.1) ((fX1_readText bgr bkd bpl bwt ce nn.toNatClampNeg i nn).2.2.2.1) ((fX1_readText bgr bkd bpl bwt ce nn.toNatClampNeg i nn).2.2.2.2.1) ((fX1_readText bgr bkd bpl bwt ce nn.toNatClampNeg i nn).2.2.2.2.2.1) ((fX1_readText bgr bkd bpl bwt ce nn.toNatClampNeg i nn).2.2.2.2.2.2) al wo fi ni pa la le ce)) (wc := (wSecSh cI b0 b1 b2 b3 ban bpn bgr bkd bpl bwt j0 j1 la le ce)) (w1 := (wSecSh cI b0 b1 b2 b3 ((fX1_readText bgr bkd bpl bwt ce nn.toNatClampNeg i nn).2.1) ((fX1_readText bgr bkd bpl bwt ce nn.toNatClampNeg i nn).2.2.1) ((fX1_readText bgr bkd bpl bwt ce nn.toNatClampNeg i nn).2.2.2.1) ((fX1_readText bgr bkd bpl bwt ce nn.toNatClampNeg i nn).2.2.2.2.1) ((fX1_readText bgr bkd bpl bwt ce nn.toNatClampNeg i nn).2.2.2.2.2.1) ((fX1_readText bgr bkd bpl bwt ce nn.toNatClampNeg i nn).2.2.2.2.2.2) j0 j1 la le ce)) hP hD hS [8, 9, 10, 11, 17, 18] rfl rfl rfl (va_runV (As := [.ref j0, .int i, .int nn]) (rest := []) ⟨hx, hb, hml, hown, hts⟩ (c_X1_readText l D cI cS b0 b1 b2 b3 ban bpn bgr bkd bpl bwt j0 j1 la le ce nn.toNatClampNeg i nn hh.1 hh.2) (cwV 3 hts gX3_secret_X1_readText rfl rfl rfl q_X1_readText ⟨Nat.le_of_ble_eq_true rfl, Nat.le_of_ble_eq_true rfl⟩) (kMV hK hP hD [8, 9, 10, 11, 17, 18] rfl rfl (va_recv hK.1 hP (ci := 1) (q0 := 8) rfl rfl) [.ref j0, .int i, .int nn]) rfl rfl hl.1 rfl (lv_room (Nat.le_of_ble_eq_true rfl)) dX3_secret_91 ⟨Nat.zero_le _, Nat.zero_le _⟩) (fun H locs hP hD hS => ?_)
          refine lv_istore (lv' := [(7, .int ((fX1_readText bgr bkd bpl bwt ce nn.toNatClampNeg i nn).1)), (6, .int (fX2_faultAs la ln)), (5, .ref j0), (0, .ref h), (1, .int sh), (2, .int ln), (3, .int i), (4, .int nn)]) hx hb dX3_secret_94 hl (by decide) rfl (fun ls hl => ?_)
          refine lv_iload hx hb dX3_secret_96 (lv_at hl 0 rfl) ?_
          refine lv_iconst (v := (-1)) hx hb dX3_secret_98 (by decide) ?_
          refine lv_icmp_eq (tgt := 108) hx hb dX3_secret_99 (by decide) (fun c99 => ?_) (fun c99 => ?_)
          · skip
            refine lv_aload_n hx hb dX3_secret_108 rfl (lv_at hl 3 rfl) ?_
            refine kMv (wl' := (wL19 cI cS h sa p0 aa ab b0 q0 q0 q1 q2 q3 b0 b1 b2 b3 p1 p2 p3 p4 j0 j1 sf 1 0 tr 0 ask shw an pn gr kd pl wt ((fX1_readText bgr bkd bpl bwt ce nn.toNatClampNeg i nn).2.1) ((fX1_readText bgr bkd bpl bwt ce nn.toNatClampNeg i nn).2.2.1) ((fX1_readText bgr bkd bpl bwt ce nn.toNatClampNeg i nn).2.2.2.1) ((fX1_readText bgr bkd bpl bwt ce nn.toNatClampNeg i nn).2.2.2.2.1) ((fX1_readText bgr bkd bpl bwt ce nn.toNatClampNeg i nn).2.2.2.2.2.1) ((fX1_readText bgr bkd bpl bwt ce nn.toNatClampNeg i nn).2.2.2.2.2.2) al wo fi ni pa la le ce)) (wc := (wL1 cI h sa p0 aa ab q0 b0 old rd tr 0)) (w1 := (wL1 cI h sa p0 aa ab b0 q0 1 0 tr 0)) hP hD hS [0] rfl rfl rfl (va_runV (As := []) (rest := []) ⟨hx, hb, hml, hown, hts⟩ (c_X3_takeSpare l D cI cS h sa p0 aa ab q0 b0 old rd tr 0) (cwV 0 hts gX3_secret_X3_takeSpare rfl rfl rfl q_X3_takeSpare ⟨Nat.le_of_ble_eq_true rfl, Nat.le_of_ble_eq_true rfl⟩) (kMV hK hP hD [0] rfl rfl (va_recv hK.1 hP (ci := 3) (q0 := 0) rfl rfl) []) rfl rfl hl.1 rfl (lv_room (Nat.le_of_ble_eq_true rfl)) dX3_secret_109 ⟨Nat.zero_le _, Nat.zero_le _⟩) (fun H locs hP hD hS => ?_)
            refine lv_aload_n hx hb dX3_secret_112 rfl (lv_at hl 3 rfl) ?_
            refine va_get (D := D) (ci := 3) (v := .ref b0) (C := RX3) (T := TX3) (N := 10) hx hb hts (fun _ h => List.mem_cons_of_mem _ (List.mem_append_left _ (List.mem_append_left _ (List.mem_append_right _ h)))) hown hK.1 hP 0 rfl rfl 4 (by decide) (hts (.fieldLink RX3 34 "LieNights" "secret" "LLieNights$Secret;") (List.mem_of_getElem? (i := 3) rfl)) (fun _ h9 => h9) rfl dX3_secret_113 ?_
            refine kPi (va_runV (As := []) (rest := []) ⟨hx, hb, hml, hown, hts⟩ (c_X1_answers l D cI cS b0 b1 b2 b3 ((fX1_readText bgr bkd bpl bwt ce nn.toNatClampNeg i nn).2.1) ((fX1_readText bgr bkd bpl bwt ce nn.toNatClampNeg i nn).2.2.1) ((fX1_readText bgr bkd bpl bwt ce nn.toNatClampNeg i nn).2.2.2.1) ((fX1_readText bgr bkd bpl bwt ce nn.toNatClampNeg i nn).2.2.2.2.1) ((fX1_readText bgr bkd bpl bwt ce nn.toNatClampNeg i nn).2.2.2.2.2.1) ((fX1_readText bgr bkd bpl bwt ce nn.toNatClampNeg i nn).2.2.2.2.2.2)) (cwV 0 hts gX3_secret_X1_answers rfl rfl rfl q_X1_answers ⟨Nat.le_of_ble_eq_true rfl, Nat.le_of_ble_eq_true rfl⟩) (kPV hK hP [8, 9, 10, 11] rfl (va_recv hK.1 hP (ci := 1) (q0 := 8) rfl rfl) []) rfl rfl hl.1 rfl (lv_room (Nat.le_of_ble_eq_true rfl)) dX3_secret_116 ⟨Nat.zero_le _, Nat.zero_le _⟩) ?_
            have hR1 : (fX3_secret_k bgr bkd bpl bwt ce i nn) = ((fX1_answers ((fX1_readText bgr bkd bpl bwt ce nn.toNatClampNeg i nn).2.1)), 0, 0, 1, (fX1_readText bgr bkd bpl bwt ce nn.toNatClampNeg i nn).2.1, (fX1_readText bgr bkd bpl bwt ce nn.toNatClampNeg i nn).2.2.1, (fX1_readText bgr bkd bpl bwt ce nn.toNatClampNeg i nn).2.2.2.1, (fX1_readText bgr bkd bpl bwt ce nn.toNatClampNeg i nn).2.2.2.2.1, (fX1_readText bgr bkd bpl bwt ce nn.toNatClampNeg i nn).2.2.2.2.2.1, (fX1_readText bgr bkd bpl bwt ce nn.toNatClampNeg i nn).2.2.2.2.2.2) := rfl
            rw [hQ]
            exact W.iret (v := (fX1_answers ((fX1_readText bgr bkd bpl bwt ce nn.toNatClampNeg i nn).2.1))) hx hb hr (fun t ht hW => ⟨⟨_, (), rfl, (by show _ = _; rw [hR1]), (by show va_P D vwCl _ t.heap; rw [hR1, ht]; exact hP)⟩, hS.F ht⟩) hS.2.2 dX3_secret_119
          exact absurd g5 c99
        exact absurd g2 c72
      exact absurd c64 g4
    exact absurd g3 c45
  exact absurd c24 g1

def fX3_nights_n (an t : Int32) : Int32 × Int32 := (if (fX3_isAnswer an t) = 0 then ((-1), 0) else ((-1), 0))
theorem q_X3_nights : yX3_nights.cls = RX3 ∧ yX3_nights.cls ≠ "java/lang/invoke/MethodHandle" ∧ yX3_nights.cls ≠ "java/lang/invoke/VarHandle" ∧ (parseMethodDescriptor yX3_nights.desc).map (fun d => d.parameters.length) = some 6 := by decide +kernel
set_option maxHeartbeats 4000000 in
set_option maxRecDepth 100000 in
theorem c_X3_nights_n (l : Launch) (D : va_G) (cI cS : ClassId) (h sa p0 aa ab q0 q1 q2 q3 b0 b1 b2 b3 p1 p2 p3 p4 : Nat) (sf : Nat → Option Nat) (old rd tr lf : Int32) (ask shw : Nat → Int32) (an pn gr : Int32) (kd pl wt : Nat → Int32) (ban bpn bgr : Int32) (bkd bpl bwt al wo fi ni : Nat → Int32) (pa t sh ln i nn wh : Int32) (hso : sh < 0 ∨ nI 4 ≤ sh) : MMi l yX3_nights wsX3_nights { frames := 4, cells := 0, slots := 0, locals := 95 } D cI cS (wL17 cI cS h sa p0 aa ab q0 b0 q0 q1 q2 q3 b0 b1 b2 b3 p1 p2 p3 p4 sf old rd tr lf ask shw an pn gr kd pl wt ban bpn bgr bkd bpl bwt al wo fi ni pa) [.ref h, .int t, .int sh, .int ln, .int i, .int nn, .int wh] ((fX3_nights_n an t).1) (wL17 cI cS h sa p0 aa ab q0 b0 q0 q1 q2 q3 b0 b1 b2 b3 p1 p2 p3 p4 sf old rd tr ((fX3_nights_n an t).2) ask shw an pn gr kd pl wt ban bpn bgr bkd bpl bwt al wo fi ni pa) := by
  refine kEnterM (cc := cX3_nights) (maxL := 10) (ret := (some .int)) (by decide) rfl (Nat.le_of_ble_eq_true rfl) ?_
  intro p e s m below meth c ls Qf hQ hx hb hml hr hlocks hown hts hK hP hD hS hl
  have hown : s.vm.findClass RX3 = some m.cls := hown
  have hl : lv_has ls 10 [(0, .ref h), (1, .int t), (2, .int sh), (3, .int ln), (4, .int i), (5, .int nn), (6, .int wh)] := hl
  generalize kA (wL17 cI cS h sa p0 aa ab q0 b0 q0 q1 q2 q3 b0 b1 b2 b3 p1 p2 p3 p4 sf old rd tr lf ask shw an pn gr kd pl wt ban bpn bgr bkd bpl bwt al wo fi ni pa) = A at hQ hD hS
  refine lv_aload_n hx hb dX3_nights_0 rfl (lv_at hl 0 rfl) ?_
  refine lv_iconst (v := 0) hx hb dX3_nights_1 (by decide) ?_
  refine va_put (D := D) (ci := 3) (v := .int 0) (ty := tyX3 9) (C := RX3) (T := TX3) (N := 10) hx hb hts (fun _ h => List.mem_cons_of_mem _ (List.mem_append_left _ (List.mem_append_left _ (List.mem_append_right _ h)))) tyX3 tyX3_ok nmX3 hown hK.1 hP hD hS 0 rfl rfl 9 (by decide) (hts (.fieldLink RX3 45 "LieNights" "lastFault" "I") (List.mem_of_getElem? (i := 1) rfl)) (fun _ h9 => h9) rfl (tyX3_ok 9 (by decide)) rfl rfl (Nat.le_of_ble_eq_true rfl) dX3_nights_2 (fun H locs hP hD hS => ?_)
  have hP : va_P D vwCl (wL17 cI cS h sa p0 aa ab q0 b0 q0 q1 q2 q3 b0 b1 b2 b3 p1 p2 p3 p4 sf old rd tr 0 ask shw an pn gr kd pl wt ban bpn bgr bkd bpl bwt al wo fi ni pa) H := hP
  have hD : va_D A (wL17 cI cS h sa p0 aa ab q0 b0 q0 q1 q2 q3 b0 b1 b2 b3 p1 p2 p3 p4 sf old rd tr 0 ask shw an pn gr kd pl wt ban bpn bgr bkd bpl bwt al wo fi ni pa) := hD
  refine lv_aload_n hx hb dX3_nights_5 rfl (lv_at hl 0 rfl) ?_
  refine lv_iload_n hx hb dX3_nights_6 rfl (lv_at hl 2 rfl) ?_
  refine kPq (va_runV (As := [.int sh]) (rest := []) ⟨hx, hb, hml, hown, hts⟩ (c_X3_sheetOf_n l D cI cS h sa p0 aa ab q0 b0 old rd tr 0 sf sh hso) (cwV 1 hts gX3_nights_X3_sheetOf rfl rfl rfl q_X3_sheetOf ⟨Nat.le_of_ble_eq_true rfl, Nat.le_of_ble_eq_true rfl⟩) (kPV hK hP [0, 1] rfl (va_recv hK.1 hP (ci := 3) (q0 := 0) rfl rfl) [.int sh]) rfl rfl hl.1 rfl (lv_room (Nat.le_of_ble_eq_true rfl)) dX3_nights_7 ⟨Nat.zero_le _, Nat.zero_le _⟩) ?_
  refine lv_astoreN (lv' := [(7, .null), (0, .ref h), (1, .int t), (2, .int sh), (3, .int ln), (4, .int i), (5, .int nn), (6, .int wh)]) hx hb dX3_nights_10 hl (by decide) rfl (fun ls hl => ?_)
  refine lv_aload_n hx hb dX3_nights_12 rfl (lv_at hl 1 rfl) ?_
  refine lv_iload_n hx hb dX3_nights_13 rfl (lv_at hl 2 rfl) ?_
  refine kPi (va_runV (As := [.int t]) (rest := []) ⟨hx, hb, hml, hown, hts⟩ (c_X3_isAnswer l D cI cS h sa p0 aa ab q0 b0 q1 q2 q3 old rd tr 0 an pn gr kd pl wt t) (cwV 1 hts gX3_nights_X3_isAnswer rfl rfl rfl q_X3_isAnswer ⟨Nat.le_of_ble_eq_true rfl, Nat.le_of_ble_eq_true rfl⟩) (kPV hK hP [0, 4, 5, 6, 7] rfl (va_recv hK.1 hP (ci := 3) (q0 := 0) rfl rfl) [.int t]) rfl rfl hl.1 rfl (lv_room (Nat.le_of_ble_eq_true rfl)) dX3_nights_14 ⟨Nat.zero_le _, Nat.zero_le _⟩) ?_
  refine lv_if_eq (tgt := 25) hx hb dX3_nights_17 (by decide) (fun c17 => ?_) (fun c17 => ?_)
  · skip
    refine lv_iconst (v := (-1)) hx hb dX3_nights_25 (by decide) ?_
    have hR1 : (fX3_nights_n an t) = ((-1), 0) := (by unfold fX3_nights_n; rw [if_pos c17])
    rw [hQ]
    exact W.iret (v := (-1)) hx hb hr (fun t ht hW => ⟨⟨_, (), rfl, (by show _ = _; rw [hR1]), (by show va_P D vwCl _ t.heap; rw [hR1, ht]; exact hP)⟩, hS.F ht⟩) hS.2.2 dX3_nights_26
  refine lv_aloadN hx hb dX3_nights_20 (lv_at hl 0 rfl) ?_
  refine lv_ifnonnullN hx hb dX3_nights_22 ?_
  refine lv_iconst (v := (-1)) hx hb dX3_nights_25 (by decide) ?_
  have hR2 : (fX3_nights_n an t) = ((-1), 0) := (by unfold fX3_nights_n; rw [if_neg c17])
  rw [hQ]
  exact W.iret (v := (-1)) hx hb hr (fun t ht hW => ⟨⟨_, (), rfl, (by show _ = _; rw [hR2]), (by show va_P D vwCl _ t.heap; rw [hR2, ht]; exact hP)⟩, hS.F ht⟩) hS.2.2 dX3_nights_26

def fX3_nights_s (an : Int32) (kd pl : Nat → Int32) (la le : Int32) (ce : Nat → Int32) (N : Nat) (t ln i nn wh : Int32) : Int32 × Int32 := (if (fX3_isAnswer an t) = 0 then ((-1), 0) else (if (fX3_within ln 2) = 0 then ((-2), 0) else (if (fX3_within nn 20) = 0 then ((-2), 0) else (if (fX3_within wh 2) = 0 then ((-2), 0) else (if (fX2_faultAs la ln) = 0 then (if (fX2_hasCells le i nn) = 0 then (((-10) - 3), 3) else (if (fX3_areAnswers an ce nn.toNatClampNeg i) = 0 then ((-1), 0) else (if wh = 0 then ((fX3_mayBe an kd pl ce N nn.toNatClampNeg t i), 0) else (if wh = 1 then ((fX3_boundOn ce nn.toNatClampNeg t i), 0) else (if (fX3_boundOn ce nn.toNatClampNeg t i) = (-9) then (if nn = 0 then ((-9), 0) else ((fX1_shownBy kd pl (fX2_get ce ((i + nn) - 1)) t), 0)) else ((-9), 0)))))) else (((-10) - (fX2_faultAs la ln)), (fX2_faultAs la ln)))))))
set_option maxHeartbeats 4000000 in
set_option maxRecDepth 100000 in
theorem c_X3_nights_s (l : Launch) (D : va_G) (cI cS : ClassId) (h sa p0 aa ab q0 q1 q2 q3 b0 b1 b2 b3 p1 p2 p3 p4 j0 j1 : Nat) (sf : Nat → Option Nat) (old rd tr lf : Int32) (ask shw : Nat → Int32) (an pn gr : Int32) (kd pl wt : Nat → Int32) (ban bpn bgr : Int32) (bkd bpl bwt al wo fi ni : Nat → Int32) (pa la le : Int32) (ce : Nat → Int32) (Le N : Nat) (t sh ln i nn wh : Int32) (hs0 : ¬ sh < 0) (hs1 : ¬ nI 4 ≤ sh) (hsj : sf sh.toNatClampNeg = some j0) (hle : le = nI Le) (hLe : Le ≤ 60) (ha : an = nI N) (hN : N ≤ 6) : MMi l yX3_nights wsX3_nights { frames := 4, cells := 0, slots := 0, locals := 95 } D cI cS (wL19 cI cS h sa p0 aa ab q0 b0 q0 q1 q2 q3 b0 b1 b2 b3 p1 p2 p3 p4 j0 j1 sf old rd tr lf ask shw an pn gr kd pl wt ban bpn bgr bkd bpl bwt al wo fi ni pa la le ce) [.ref h, .int t, .int sh, .int ln, .int i, .int nn, .int wh] ((fX3_nights_s an kd pl la le ce N t ln i nn wh).1) (wL19 cI cS h sa p0 aa ab q0 b0 q0 q1 q2 q3 b0 b1 b2 b3 p1 p2 p3 p4 j0 j1 sf old rd tr ((fX3_nights_s an kd pl la le ce N t ln i nn wh).2) ask shw an pn gr kd pl wt ban bpn bgr bkd bpl bwt al wo fi ni pa la le ce) := by
  refine kEnterM (cc := cX3_nights) (maxL := 10) (ret := (some .int)) (by decide) rfl (Nat.le_of_ble_eq_true rfl) ?_
  intro p e s m below meth c ls Qf hQ hx hb hml hr hlocks hown hts hK hP hD hS hl
  have hown : s.vm.findClass RX3 = some m.cls := hown
  have hl : lv_has ls 10 [(0, .ref h), (1, .int t), (2, .int sh), (3, .int ln), (4, .int i), (5, .int nn), (6, .int wh)] := hl
  generalize kA (wL19 cI cS h sa p0 aa ab q0 b0 q0 q1 q2 q3 b0 b1 b2 b3 p1 p2 p3 p4 j0 j1 sf old rd tr lf ask shw an pn gr kd pl wt ban bpn bgr bkd bpl bwt al wo fi ni pa la le ce) = A at hQ hD hS
  refine lv_aload_n hx hb dX3_nights_0 rfl (lv_at hl 0 rfl) ?_
  refine lv_iconst (v := 0) hx hb dX3_nights_1 (by decide) ?_
  refine va_put (D := D) (ci := 3) (v := .int 0) (ty := tyX3 9) (C := RX3) (T := TX3) (N := 10) hx hb hts (fun _ h => List.mem_cons_of_mem _ (List.mem_append_left _ (List.mem_append_left _ (List.mem_append_right _ h)))) tyX3 tyX3_ok nmX3 hown hK.1 hP hD hS 0 rfl rfl 9 (by decide) (hts (.fieldLink RX3 45 "LieNights" "lastFault" "I") (List.mem_of_getElem? (i := 1) rfl)) (fun _ h9 => h9) rfl (tyX3_ok 9 (by decide)) rfl rfl (Nat.le_of_ble_eq_true rfl) dX3_nights_2 (fun H locs hP hD hS => ?_)
  have hP : va_P D vwCl (wL19 cI cS h sa p0 aa ab q0 b0 q0 q1 q2 q3 b0 b1 b2 b3 p1 p2 p3 p4 j0 j1 sf old rd tr 0 ask shw an pn gr kd pl wt ban bpn bgr bkd bpl bwt al wo fi ni pa la le ce) H := hP
  have hD : va_D A (wL19 cI cS h sa p0 aa ab q0 b0 q0 q1 q2 q3 b0 b1 b2 b3 p1 p2 p3 p4 j0 j1 sf old rd tr 0 ask shw an pn gr kd pl wt ban bpn bgr bkd bpl bwt al wo fi ni pa la le ce) := hD
  refine lv_aload_n hx hb dX3_nights_5 rfl (lv_at hl 0 rfl) ?_
  refine lv_iload_n hx hb dX3_nights_6 rfl (lv_at hl 2 rfl) ?_
  refine kPq (va_runV (As := [.int sh]) (rest := []) ⟨hx, hb, hml, hown, hts⟩ (c_X3_sheetOf_s l D cI cS h sa p0 aa ab q0 b0 old rd tr 0 sf sh hs0 hs1) (cwV 1 hts gX3_nights_X3_sheetOf rfl rfl rfl q_X3_sheetOf ⟨Nat.le_of_ble_eq_true rfl, Nat.le_of_ble_eq_true rfl⟩) (kPV hK hP [0, 1] rfl (va_recv hK.1 hP (ci := 3) (q0 := 0) rfl rfl) [.int sh]) rfl rfl hl.1 rfl (lv_room (Nat.le_of_ble_eq_true rfl)) dX3_nights_7 ⟨Nat.zero_le _, Nat.zero_le _⟩) ?_
  rw [hsj]
  refine lv_astore (lv' := [(7, .ref j0), (0, .ref h), (1, .int t), (2, .int sh), (3, .int ln), (4, .int i), (5, .int nn), (6, .int wh)]) hx hb dX3_nights_10 hl (by decide) rfl (fun ls hl => ?_)
  refine lv_aload_n hx hb dX3_nights_12 rfl (lv_at hl 1 rfl) ?_
  refine lv_iload_n hx hb dX3_nights_13 rfl (lv_at hl 2 rfl) ?_
  refine kPi (va_runV (As := [.int t]) (rest := []) ⟨hx, hb, hml, hown, hts⟩ (c_X3_isAnswer l D cI cS h sa p0 aa ab q0 b0 q1 q2 q3 old rd tr 0 an pn gr kd pl wt t) (cwV 1 hts gX3_nights_X3_isAnswer rfl rfl rfl q_X3_isAnswer ⟨Nat.le_of_ble_eq_true rfl, Nat.le_of_ble_eq_true rfl⟩) (kPV hK hP [0, 4, 5, 6, 7] rfl (va_recv hK.1 hP (ci := 3) (q0 := 0) rfl rfl) [.int t]) rfl rfl hl.1 rfl (lv_room (Nat.le_of_ble_eq_true rfl)) dX3_nights_14 ⟨Nat.zero_le _, Nat.zero_le _⟩) ?_
  refine lv_if_eq (tgt := 25) hx hb dX3_nights_17 (by decide) (fun c17 => ?_) (fun c17 => ?_)
  · skip
    refine lv_iconst (v := (-1)) hx hb dX3_nights_25 (by decide) ?_
    have hR1 : (fX3_nights_s an kd pl la le ce N t ln i nn wh) = ((-1), 0) := (by unfold fX3_nights_s; rw [if_pos c17])
    rw [hQ]
    exact W.iret (v := (-1)) hx hb hr (fun t ht hW => ⟨⟨_, (), rfl, (by show _ = _; rw [hR1]), (by show va_P D vwCl _ t.heap; rw [hR1, ht]; exact hP)⟩, hS.F ht⟩) hS.2.2 dX3_nights_26
  refine lv_aload hx hb dX3_nights_20 (lv_at hl 0 rfl) ?_
  refine lv_ifnonnull (tgt := 27) hx hb dX3_nights_22 (by decide) ?_
  refine lv_iload_n hx hb dX3_nights_27 rfl (lv_at hl 4 rfl) ?_
  refine lv_iconst (v := 2) hx hb dX3_nights_28 (by decide) ?_
  refine kPi (va_runS (As := [.int ln, .int 2]) (rest := []) ⟨hx, hb, hml, hown, hts⟩ (c_X3_within l D cI cS ln 2) (va_cwS 2 hts gX3_nights_X3_within rfl rfl rfl q_X3_within.2 ⟨Nat.le_of_ble_eq_true rfl, Nat.le_of_ble_eq_true rfl⟩) (kPS hK hP [] rfl [.int ln, .int 2]) rfl rfl hl.1 rfl (lv_room (Nat.le_of_ble_eq_true rfl)) dX3_nights_29 ⟨Nat.zero_le _, Nat.zero_le _⟩) ?_
  refine lv_if_eq (tgt := 54) hx hb dX3_nights_32 (by decide) (fun c32 => ?_) (fun c32 => ?_)
  · skip
    refine lv_bipush (v := (-2)) hx hb dX3_nights_54 (by decide) ?_
    have hR2 : (fX3_nights_s an kd pl la le ce N t ln i nn wh) = ((-2), 0) := (by unfold fX3_nights_s; rw [if_neg c17, if_pos c32])
    rw [hQ]
    exact W.iret (v := (-2)) hx hb hr (fun t ht hW => ⟨⟨_, (), rfl, (by show _ = _; rw [hR2]), (by show va_P D vwCl _ t.heap; rw [hR2, ht]; exact hP)⟩, hS.F ht⟩) hS.2.2 dX3_nights_56
  refine lv_iload hx hb dX3_nights_35 (lv_at hl 6 rfl) ?_
  refine lv_bipush (v := 20) hx hb dX3_nights_37 (by decide) ?_
  refine kPi (va_runS (As := [.int nn, .int 20]) (rest := []) ⟨hx, hb, hml, hown, hts⟩ (c_X3_within l D cI cS nn 20) (va_cwS 2 hts gX3_nights_X3_within rfl rfl rfl q_X3_within.2 ⟨Nat.le_of_ble_eq_true rfl, Nat.le_of_ble_eq_true rfl⟩) (kPS hK hP [] rfl [.int nn, .int 20]) rfl rfl hl.1 rfl (lv_room (Nat.le_of_ble_eq_true rfl)) dX3_nights_39 ⟨Nat.zero_le _, Nat.zero_le _⟩) ?_
  refine lv_if_eq (tgt := 54) hx hb dX3_nights_42 (by decide) (fun c42 => ?_) (fun c42 => ?_)
  · skip
    refine lv_bipush (v := (-2)) hx hb dX3_nights_54 (by decide) ?_
    have hR3 : (fX3_nights_s an kd pl la le ce N t ln i nn wh) = ((-2), 0) := (by unfold fX3_nights_s; rw [if_neg c17, if_neg c32, if_pos c42])
    rw [hQ]
    exact W.iret (v := (-2)) hx hb hr (fun t ht hW => ⟨⟨_, (), rfl, (by show _ = _; rw [hR3]), (by show va_P D vwCl _ t.heap; rw [hR3, ht]; exact hP)⟩, hS.F ht⟩) hS.2.2 dX3_nights_56
  refine lv_iload hx hb dX3_nights_45 (lv_at hl 7 rfl) ?_
  refine lv_iconst (v := 2) hx hb dX3_nights_47 (by decide) ?_
  refine kPi (va_runS (As := [.int wh, .int 2]) (rest := []) ⟨hx, hb, hml, hown, hts⟩ (c_X3_within l D cI cS wh 2) (va_cwS 2 hts gX3_nights_X3_within rfl rfl rfl q_X3_within.2 ⟨Nat.le_of_ble_eq_true rfl, Nat.le_of_ble_eq_true rfl⟩) (kPS hK hP [] rfl [.int wh, .int 2]) rfl rfl hl.1 rfl (lv_room (Nat.le_of_ble_eq_true rfl)) dX3_nights_48 ⟨Nat.zero_le _, Nat.zero_le _⟩) ?_
  refine lv_if_ne (tgt := 57) hx hb dX3_nights_51 (by decide) (fun c51 => ?_) (fun c51 => ?_)
  · skip
    refine lv_aload hx hb dX3_nights_57 (lv_at hl 0 rfl) ?_
    refine lv_iload_n hx hb dX3_nights_59 rfl (lv_at hl 4 rfl) ?_
    refine kPi (va_runV (As := [.int ln]) (rest := []) ⟨hx, hb, hml, hown, hts⟩ (c_X2_faultAs l D cI cS j0 j1 la le ce ln) (cwV 1 hts gX3_nights_X2_faultAs rfl rfl rfl q_X2_faultAs ⟨Nat.le_of_ble_eq_true rfl, Nat.le_of_ble_eq_true rfl⟩) (kPV hK hP [17, 18] rfl (va_recv hK.1 hP (ci := 2) (q0 := 17) rfl rfl) [.int ln]) rfl rfl hl.1 rfl (lv_room (Nat.le_of_ble_eq_true rfl)) dX3_nights_60 ⟨Nat.zero_le _, Nat.zero_le _⟩) ?_
    refine lv_istore (lv' := [(8, .int (fX2_faultAs la ln)), (7, .ref j0), (0, .ref h), (1, .int t), (2, .int sh), (3, .int ln), (4, .int i), (5, .int nn), (6, .int wh)]) hx hb dX3_nights_63 hl (by decide) rfl (fun ls hl => ?_)
    refine lv_iload hx hb dX3_nights_65 (lv_at hl 0 rfl) ?_
    refine lv_if_ne (tgt := 85) hx hb dX3_nights_67 (by decide) (fun c67 => ?_) (fun c67 => ?_)
    · skip
      refine lv_iload hx hb dX3_nights_85 (lv_at hl 0 rfl) ?_
      refine lv_if_eq (tgt := 97) hx hb dX3_nights_87 (by decide) (fun c87 => ?_) (fun c87 => ?_)
      · exact absurd c87 c67
      refine lv_aload_n hx hb dX3_nights_90 rfl (lv_at hl 2 rfl) ?_
      refine lv_iload hx hb dX3_nights_91 (lv_at hl 0 rfl) ?_
      refine kMi (wl' := (wL19 cI cS h sa p0 aa ab q0 b0 q0 q1 q2 q3 b0 b1 b2 b3 p1 p2 p3 p4 j0 j1 sf old rd tr (fX2_faultAs la ln) ask shw an pn gr kd pl wt ban bpn bgr bkd bpl bwt al wo fi ni pa la le ce)) (wc := (wL1 cI h sa p0 aa ab q0 b0 old rd tr 0)) (w1 := (wL1 cI h sa p0 aa ab q0 b0 old rd tr (fX2_faultAs la ln))) hP hD hS [0] rfl rfl rfl (va_runV (As := [.int (fX2_faultAs la ln)]) (rest := []) ⟨hx, hb, hml, hown, hts⟩ (c_X3_faulted l D cI cS h sa p0 aa ab q0 b0 old rd tr 0 (fX2_faultAs la ln)) (cwV 1 hts gX3_nights_X3_faulted rfl rfl rfl q_X3_faulted ⟨Nat.le_of_ble_eq_true rfl, Nat.le_of_ble_eq_true rfl⟩) (kMV hK hP hD [0] rfl rfl (va_recv hK.1 hP (ci := 3) (q0 := 0) rfl rfl) [.int (fX2_faultAs la ln)]) rfl rfl hl.1 rfl (lv_room (Nat.le_of_ble_eq_true rfl)) dX3_nights_93 ⟨Nat.zero_le _, Nat.zero_le _⟩) (fun H locs hP hD hS => ?_)
      have hR4 : (fX3_nights_s an kd pl la le ce N t ln i nn wh) = (((-10) - (fX2_faultAs la ln)), (fX2_faultAs la ln)) := (by unfold fX3_nights_s; rw [if_neg c17, if_neg c32, if_neg c42, if_neg c51, if_neg c67])
      rw [hQ]
      exact W.iret (v := ((-10) - (fX2_faultAs la ln))) hx hb hr (fun t ht hW => ⟨⟨_, (), rfl, (by show _ = _; rw [hR4]), (by show va_P D vwCl _ t.heap; rw [hR4, ht]; exact hP)⟩, hS.F ht⟩) hS.2.2 dX3_nights_96
    refine lv_aload hx hb dX3_nights_70 (lv_at hl 1 rfl) ?_
    refine lv_iload hx hb dX3_nights_72 (lv_at hl 6 rfl) ?_
    refine lv_iload hx hb dX3_nights_74 (lv_at hl 7 rfl) ?_
    refine kPi (va_runV (As := [.int i, .int nn]) (rest := []) ⟨hx, hb, hml, hown, hts⟩ (c_X2_hasCells l D cI cS j0 j1 la le ce i nn) (cwV 2 hts gX3_nights_X2_hasCells rfl rfl rfl q_X2_hasCells ⟨Nat.le_of_ble_eq_true rfl, Nat.le_of_ble_eq_true rfl⟩) (kPV hK hP [17, 18] rfl (va_recv hK.1 hP (ci := 2) (q0 := 17) rfl rfl) [.int i, .int nn]) rfl rfl hl.1 rfl (lv_room (Nat.le_of_ble_eq_true rfl)) dX3_nights_76 ⟨Nat.zero_le _, Nat.zero_le _⟩) ?_
    refine lv_if_ne (tgt := 85) hx hb dX3_nights_79 (by decide) (fun c79 => ?_) (fun c79 => ?_)
    · skip
      refine lv_iload hx hb dX3_nights_85 (lv_at hl 0 rfl) ?_
      refine lv_if_eq (tgt := 97) hx hb dX3_nights_87 (by decide) (fun c87 => ?_) (fun c87 => ?_)
      · skip
        have hw := kWithin 20 (by decide) c42
        refine lv_aload_n hx hb dX3_nights_97 rfl (lv_at hl 2 rfl) ?_
        refine lv_aload hx hb dX3_nights_98 (lv_at hl 1 rfl) ?_
        refine lv_iload hx hb dX3_nights_100 (lv_at hl 6 rfl) ?_
        refine lv_iload hx hb dX3_nights_102 (lv_at hl 7 rfl) ?_
        refine kPi (va_runV (As := [.ref j0, .int i, .int nn]) (rest := []) ⟨hx, hb, hml, hown, hts⟩ (c_X3_areAnswers l D cI cS h sa p0 aa ab q0 b0 q1 q2 q3 j0 j1 old rd tr 0 an pn gr kd pl wt la le ce nn.toNatClampNeg i nn hw.1 (Nat.le_trans hw.2 (by decide))) (cwV 3 hts gX3_nights_X3_areAnswers rfl rfl rfl q_X3_areAnswers ⟨Nat.le_of_ble_eq_true rfl, Nat.le_of_ble_eq_true rfl⟩) (kPV hK hP [0, 4, 5, 6, 7, 17, 18] rfl (va_recv hK.1 hP (ci := 3) (q0 := 0) rfl rfl) [.ref j0, .int i, .int nn]) rfl rfl hl.1 rfl (lv_room (Nat.le_of_ble_eq_true rfl)) dX3_nights_104 ⟨Nat.zero_le _, Nat.zero_le _⟩) ?_
        refine lv_if_ne (tgt := 112) hx hb dX3_nights_107 (by decide) (fun c107 => ?_) (fun c107 => ?_)
        · skip
          refine lv_iload hx hb dX3_nights_112 (lv_at hl 8 rfl) ?_
          refine lv_if_ne (tgt := 129) hx hb dX3_nights_114 (by decide) (fun c114 => ?_) (fun c114 => ?_)
          · skip
            refine lv_aload_n hx hb dX3_nights_129 rfl (lv_at hl 2 rfl) ?_
            refine lv_iload_n hx hb dX3_nights_130 rfl (lv_at hl 3 rfl) ?_
            refine lv_aload hx hb dX3_nights_131 (lv_at hl 1 rfl) ?_
            refine lv_iload hx hb dX3_nights_133 (lv_at hl 6 rfl) ?_
            refine lv_iload hx hb dX3_nights_135 (lv_at hl 7 rfl) ?_
            refine kPi (va_runV (As := [.int t, .ref j0, .int i, .int nn]) (rest := []) ⟨hx, hb, hml, hown, hts⟩ (c_X3_boundOn l D cI cS j0 j1 la le ce h nn.toNatClampNeg t i nn hw.1 (Nat.le_trans hw.2 (by decide))) (cwV 4 hts gX3_nights_X3_boundOn rfl rfl rfl q_X3_boundOn ⟨Nat.le_of_ble_eq_true rfl, Nat.le_of_ble_eq_true rfl⟩) (kPV hK hP [17, 18] rfl (va_recv hK.1 hP (ci := 3) (q0 := 0) rfl rfl) [.int t, .ref j0, .int i, .int nn]) rfl rfl hl.1 rfl (lv_room (Nat.le_of_ble_eq_true rfl)) dX3_nights_137 ⟨Nat.zero_le _, Nat.zero_le _⟩) ?_
            refine lv_istore (lv' := [(9, .int (fX3_boundOn ce nn.toNatClampNeg t i)), (8, .int (fX2_faultAs la ln)), (7, .ref j0), (0, .ref h), (1, .int t), (2, .int sh), (3, .int ln), (4, .int i), (5, .int nn), (6, .int wh)]) hx hb dX3_nights_140 hl (by decide) rfl (fun ls hl => ?_)
            refine lv_iload hx hb dX3_nights_142 (lv_at hl 9 rfl) ?_
            refine lv_iconst (v := 1) hx hb dX3_nights_144 (by decide) ?_
            refine lv_icmp_ne (tgt := 151) hx hb dX3_nights_145 (by decide) (fun c145 => ?_) (fun c145 => ?_)
            · skip
              refine lv_iload hx hb dX3_nights_151 (lv_at hl 0 rfl) ?_
              refine lv_bipush (v := (-9)) hx hb dX3_nights_153 (by decide) ?_
              refine lv_icmp_ne (tgt := 163) hx hb dX3_nights_155 (by decide) (fun c155 => ?_) (fun c155 => ?_)
              · skip
                refine lv_bipush (v := (-9)) hx hb dX3_nights_163 (by decide) ?_
                refine lv_goto (tgt := 188) hx hb dX3_nights_165 (by decide) ?_
                have hR5 : (fX3_nights_s an kd pl la le ce N t ln i nn wh) = ((-9), 0) := (by unfold fX3_nights_s; rw [if_neg c17, if_neg c32, if_neg c42, if_neg c51, if_pos c67, if_neg c79, if_neg c107, if_neg c114, if_neg c145, if_neg c155])
                rw [hQ]
                exact W.iret (v := (-9)) hx hb hr (fun t ht hW => ⟨⟨_, (), rfl, (by show _ = _; rw [hR5]), (by show va_P D vwCl _ t.heap; rw [hR5, ht]; exact hP)⟩, hS.F ht⟩) hS.2.2 dX3_nights_188
              refine lv_iload hx hb dX3_nights_158 (lv_at hl 8 rfl) ?_
              refine lv_if_ne (tgt := 168) hx hb dX3_nights_160 (by decide) (fun c160 => ?_) (fun c160 => ?_)
              · skip
                refine lv_aload_n hx hb dX3_nights_168 rfl (lv_at hl 3 rfl) ?_
                refine va_get (D := D) (ci := 3) (v := .ref q0) (C := RX3) (T := TX3) (N := 10) hx hb hts (fun _ h => List.mem_cons_of_mem _ (List.mem_append_left _ (List.mem_append_left _ (List.mem_append_right _ h)))) hown hK.1 hP 0 rfl rfl 4 (by decide) (hts (.fieldLink RX3 34 "LieNights" "secret" "LLieNights$Secret;") (List.mem_of_getElem? (i := 2) rfl)) (fun _ h9 => h9) rfl dX3_nights_169 ?_
                refine lv_aload hx hb dX3_nights_172 (lv_at hl 2 rfl) ?_
                refine lv_iload hx hb dX3_nights_174 (lv_at hl 7 rfl) ?_
                refine lv_iload hx hb dX3_nights_176 (lv_at hl 8 rfl) ?_
                refine lv_iadd hx hb dX3_nights_178 ?_
                refine lv_iconst (v := 1) hx hb dX3_nights_179 (by decide) ?_
                refine lv_isub hx hb dX3_nights_180 ?_
                refine kPi (va_runV (As := [.int ((i + nn) - 1)]) (rest := [.ref q0]) ⟨hx, hb, hml, hown, hts⟩ (c_X2_get l D cI cS j0 j1 la le ce ((i + nn) - 1)) (cwV 1 hts gX3_nights_X2_get rfl rfl rfl q_X2_get ⟨Nat.le_of_ble_eq_true rfl, Nat.le_of_ble_eq_true rfl⟩) (kPV hK hP [17, 18] rfl (va_recv hK.1 hP (ci := 2) (q0 := 17) rfl rfl) [.int ((i + nn) - 1)]) rfl rfl hl.1 rfl (lv_room (Nat.le_of_ble_eq_true rfl)) dX3_nights_181 ⟨Nat.zero_le _, Nat.zero_le _⟩) ?_
                refine lv_iload_n hx hb dX3_nights_184 rfl (lv_at hl 4 rfl) ?_
                refine kPi (va_runV (As := [.int (fX2_get ce ((i + nn) - 1)), .int t]) (rest := []) ⟨hx, hb, hml, hown, hts⟩ (c_X1_shownBy l D cI cS q0 q1 q2 q3 an pn gr kd pl wt (fX2_get ce ((i + nn) - 1)) t) (cwV 2 hts gX3_nights_X1_shownBy rfl rfl rfl q_X1_shownBy ⟨Nat.le_of_ble_eq_true rfl, Nat.le_of_ble_eq_true rfl⟩) (kPV hK hP [4, 5, 6, 7] rfl (va_recv hK.1 hP (ci := 1) (q0 := 4) rfl rfl) [.int (fX2_get ce ((i + nn) - 1)), .int t]) rfl rfl hl.1 rfl (lv_room (Nat.le_of_ble_eq_true rfl)) dX3_nights_185 ⟨Nat.zero_le _, Nat.zero_le _⟩) ?_
                have hR6 : (fX3_nights_s an kd pl la le ce N t ln i nn wh) = ((fX1_shownBy kd pl (fX2_get ce ((i + nn) - 1)) t), 0) := (by unfold fX3_nights_s; rw [if_neg c17, if_neg c32, if_neg c42, if_neg c51, if_pos c67, if_neg c79, if_neg c107, if_neg c114, if_neg c145, if_pos c155, if_neg c160])
                rw [hQ]
                exact W.iret (v := (fX1_shownBy kd pl (fX2_get ce ((i + nn) - 1)) t)) hx hb hr (fun t ht hW => ⟨⟨_, (), rfl, (by show _ = _; rw [hR6]), (by show va_P D vwCl _ t.heap; rw [hR6, ht]; exact hP)⟩, hS.F ht⟩) hS.2.2 dX3_nights_188
              refine lv_bipush (v := (-9)) hx hb dX3_nights_163 (by decide) ?_
              refine lv_goto (tgt := 188) hx hb dX3_nights_165 (by decide) ?_
              have hR7 : (fX3_nights_s an kd pl la le ce N t ln i nn wh) = ((-9), 0) := (by unfold fX3_nights_s; rw [if_neg c17, if_neg c32, if_neg c42, if_neg c51, if_pos c67, if_neg c79, if_neg c107, if_neg c114, if_neg c145, if_pos c155, if_pos c160])
              rw [hQ]
              exact W.iret (v := (-9)) hx hb hr (fun t ht hW => ⟨⟨_, (), rfl, (by show _ = _; rw [hR7]), (by show va_P D vwCl _ t.heap; rw [hR7, ht]; exact hP)⟩, hS.F ht⟩) hS.2.2 dX3_nights_188
            refine lv_iload hx hb dX3_nights_148 (lv_at hl 0 rfl) ?_
            have hR8 : (fX3_nights_s an kd pl la le ce N t ln i nn wh) = ((fX3_boundOn ce nn.toNatClampNeg t i), 0) := (by unfold fX3_nights_s; rw [if_neg c17, if_neg c32, if_neg c42, if_neg c51, if_pos c67, if_neg c79, if_neg c107, if_neg c114, if_pos c145])
            rw [hQ]
            exact W.iret (v := (fX3_boundOn ce nn.toNatClampNeg t i)) hx hb hr (fun t ht hW => ⟨⟨_, (), rfl, (by show _ = _; rw [hR8]), (by show va_P D vwCl _ t.heap; rw [hR8, ht]; exact hP)⟩, hS.F ht⟩) hS.2.2 dX3_nights_150
          refine lv_aload_n hx hb dX3_nights_117 rfl (lv_at hl 2 rfl) ?_
          refine lv_iload_n hx hb dX3_nights_118 rfl (lv_at hl 3 rfl) ?_
          refine lv_aload hx hb dX3_nights_119 (lv_at hl 1 rfl) ?_
          refine lv_iload hx hb dX3_nights_121 (lv_at hl 6 rfl) ?_
          refine lv_iload hx hb dX3_nights_123 (lv_at hl 7 rfl) ?_
          refine kPi (va_runV (As := [.int t, .ref j0, .int i, .int nn]) (rest := []) ⟨hx, hb, hml, hown, hts⟩ (c_X3_mayBe l D cI cS h sa p0 aa ab q0 b0 q1 q2 q3 j0 j1 old rd tr 0 an pn gr kd pl wt la le ce N nn.toNatClampNeg t i nn ha hN hw.1 (Nat.le_trans hw.2 (by decide))) (cwV 4 hts gX3_nights_X3_mayBe rfl rfl rfl q_X3_mayBe ⟨Nat.le_of_ble_eq_true rfl, Nat.le_of_ble_eq_true rfl⟩) (kPV hK hP [0, 4, 5, 6, 7, 17, 18] rfl (va_recv hK.1 hP (ci := 3) (q0 := 0) rfl rfl) [.int t, .ref j0, .int i, .int nn]) rfl rfl hl.1 rfl (lv_room (Nat.le_of_ble_eq_true rfl)) dX3_nights_125 ⟨Nat.zero_le _, Nat.zero_le _⟩) ?_
          have hR9 : (fX3_nights_s an kd pl la le ce N t ln i nn wh) = ((fX3_mayBe an kd pl ce N nn.toNatClampNeg t i), 0) := (by unfold fX3_nights_s; rw [if_neg c17, if_neg c32, if_neg c42, if_neg c51, if_pos c67, if_neg c79, if_neg c107, if_pos c114])
          rw [hQ]
          exact W.iret (v := (fX3_mayBe an kd pl ce N nn.toNatClampNeg t i)) hx hb hr (fun t ht hW => ⟨⟨_, (), rfl, (by show _ = _; rw [hR9]), (by show va_P D vwCl _ t.heap; rw [hR9, ht]; exact hP)⟩, hS.F ht⟩) hS.2.2 dX3_nights_128
        refine lv_iconst (v := (-1)) hx hb dX3_nights_110 (by decide) ?_
        have hR10 : (fX3_nights_s an kd pl la le ce N t ln i nn wh) = ((-1), 0) := (by unfold fX3_nights_s; rw [if_neg c17, if_neg c32, if_neg c42, if_neg c51, if_pos c67, if_neg c79, if_pos c107])
        rw [hQ]
        exact W.iret (v := (-1)) hx hb hr (fun t ht hW => ⟨⟨_, (), rfl, (by show _ = _; rw [hR10]), (by show va_P D vwCl _ t.heap; rw [hR10, ht]; exact hP)⟩, hS.F ht⟩) hS.2.2 dX3_nights_111
      exact absurd c67 c87
    refine lv_iconst (v := 3) hx hb dX3_nights_82 (by decide) ?_
    refine lv_istore (lv' := [(8, .int 3), (7, .ref j0), (0, .ref h), (1, .int t), (2, .int sh), (3, .int ln), (4, .int i), (5, .int nn), (6, .int wh)]) hx hb dX3_nights_83 hl (by decide) rfl (fun ls hl => ?_)
    refine lv_iload hx hb dX3_nights_85 (lv_at hl 0 rfl) ?_
    refine lv_if_eq (tgt := 97) hx hb dX3_nights_87 (by decide) (fun c87 => ?_) (fun c87 => ?_)
    · exact absurd c87 (by decide)
    refine lv_aload_n hx hb dX3_nights_90 rfl (lv_at hl 2 rfl) ?_
    refine lv_iload hx hb dX3_nights_91 (lv_at hl 0 rfl) ?_
    refine kMi (wl' := (wL19 cI cS h sa p0 aa ab q0 b0 q0 q1 q2 q3 b0 b1 b2 b3 p1 p2 p3 p4 j0 j1 sf old rd tr 3 ask shw an pn gr kd pl wt ban bpn bgr bkd bpl bwt al wo fi ni pa la le ce)) (wc := (wL1 cI h sa p0 aa ab q0 b0 old rd tr 0)) (w1 := (wL1 cI h sa p0 aa ab q0 b0 old rd tr 3)) hP hD hS [0] rfl rfl rfl (va_runV (As := [.int 3]) (rest := []) ⟨hx, hb, hml, hown, hts⟩ (c_X3_faulted l D cI cS h sa p0 aa ab q0 b0 old rd tr 0 3) (cwV 1 hts gX3_nights_X3_faulted rfl rfl rfl q_X3_faulted ⟨Nat.le_of_ble_eq_true rfl, Nat.le_of_ble_eq_true rfl⟩) (kMV hK hP hD [0] rfl rfl (va_recv hK.1 hP (ci := 3) (q0 := 0) rfl rfl) [.int 3]) rfl rfl hl.1 rfl (lv_room (Nat.le_of_ble_eq_true rfl)) dX3_nights_93 ⟨Nat.zero_le _, Nat.zero_le _⟩) (fun H locs hP hD hS => ?_)
    have hR11 : (fX3_nights_s an kd pl la le ce N t ln i nn wh) = (((-10) - 3), 3) := (by unfold fX3_nights_s; rw [if_neg c17, if_neg c32, if_neg c42, if_neg c51, if_pos c67, if_pos c79])
    rw [hQ]
    exact W.iret (v := ((-10) - 3)) hx hb hr (fun t ht hW => ⟨⟨_, (), rfl, (by show _ = _; rw [hR11]), (by show va_P D vwCl _ t.heap; rw [hR11, ht]; exact hP)⟩, hS.F ht⟩) hS.2.2 dX3_nights_96
  refine lv_bipush (v := (-2)) hx hb dX3_nights_54 (by decide) ?_
  have hR12 : (fX3_nights_s an kd pl la le ce N t ln i nn wh) = ((-2), 0) := (by unfold fX3_nights_s; rw [if_neg c17, if_neg c32, if_neg c42, if_pos c51])
  rw [hQ]
  exact W.iret (v := (-2)) hx hb hr (fun t ht hW => ⟨⟨_, (), rfl, (by show _ = _; rw [hR12]), (by show va_P D vwCl _ t.heap; rw [hR12, ht]; exact hP)⟩, hS.F ht⟩) hS.2.2 dX3_nights_56

def fX3_sheet_n  : Int32 × Int32 := ((-1), 0)
theorem q_X3_sheet : yX3_sheet.cls = RX3 ∧ yX3_sheet.cls ≠ "java/lang/invoke/MethodHandle" ∧ yX3_sheet.cls ≠ "java/lang/invoke/VarHandle" ∧ (parseMethodDescriptor yX3_sheet.desc).map (fun d => d.parameters.length) = some 3 := by decide +kernel
set_option maxHeartbeats 4000000 in
set_option maxRecDepth 100000 in
theorem c_X3_sheet_n (l : Launch) (D : va_G) (cI cS : ClassId) (h sa p0 aa ab q0 q1 q2 q3 b0 b1 b2 b3 p1 p2 p3 p4 : Nat) (sf : Nat → Option Nat) (old rd tr lf : Int32) (ask shw : Nat → Int32) (an pn gr : Int32) (kd pl wt : Nat → Int32) (ban bpn bgr : Int32) (bkd bpl bwt al wo fi ni : Nat → Int32) (pa sh ln nn : Int32) (hso : sh < 0 ∨ nI 4 ≤ sh) : MMi l yX3_sheet wsX3_sheet { frames := 2, cells := 0, slots := 0, locals := 45 } D cI cS (wL17 cI cS h sa p0 aa ab q0 b0 q0 q1 q2 q3 b0 b1 b2 b3 p1 p2 p3 p4 sf old rd tr lf ask shw an pn gr kd pl wt ban bpn bgr bkd bpl bwt al wo fi ni pa) [.ref h, .int sh, .int ln, .int nn] fX3_sheet_n.1 (wL17 cI cS h sa p0 aa ab q0 b0 q0 q1 q2 q3 b0 b1 b2 b3 p1 p2 p3 p4 sf old rd tr fX3_sheet_n.2 ask shw an pn gr kd pl wt ban bpn bgr bkd bpl bwt al wo fi ni pa) := by
  refine kEnterM (cc := cX3_sheet) (maxL := 5) (ret := (some .int)) (by decide) rfl (Nat.le_of_ble_eq_true rfl) ?_
  intro p e s m below meth c ls Qf hQ hx hb hml hr hlocks hown hts hK hP hD hS hl
  have hown : s.vm.findClass RX3 = some m.cls := hown
  have hl : lv_has ls 5 [(0, .ref h), (1, .int sh), (2, .int ln), (3, .int nn)] := hl
  generalize kA (wL17 cI cS h sa p0 aa ab q0 b0 q0 q1 q2 q3 b0 b1 b2 b3 p1 p2 p3 p4 sf old rd tr lf ask shw an pn gr kd pl wt ban bpn bgr bkd bpl bwt al wo fi ni pa) = A at hQ hD hS
  refine lv_aload_n hx hb dX3_sheet_0 rfl (lv_at hl 0 rfl) ?_
  refine lv_iconst (v := 0) hx hb dX3_sheet_1 (by decide) ?_
  refine va_put (D := D) (ci := 3) (v := .int 0) (ty := tyX3 9) (C := RX3) (T := TX3) (N := 10) hx hb hts (fun _ h => List.mem_cons_of_mem _ (List.mem_append_left _ (List.mem_append_right _ h))) tyX3 tyX3_ok nmX3 hown hK.1 hP hD hS 0 rfl rfl 9 (by decide) (hts (.fieldLink RX3 45 "LieNights" "lastFault" "I") (List.mem_of_getElem? (i := 1) rfl)) (fun _ h9 => h9) rfl (tyX3_ok 9 (by decide)) rfl rfl (Nat.le_of_ble_eq_true rfl) dX3_sheet_2 (fun H locs hP hD hS => ?_)
  have hP : va_P D vwCl (wL17 cI cS h sa p0 aa ab q0 b0 q0 q1 q2 q3 b0 b1 b2 b3 p1 p2 p3 p4 sf old rd tr 0 ask shw an pn gr kd pl wt ban bpn bgr bkd bpl bwt al wo fi ni pa) H := hP
  have hD : va_D A (wL17 cI cS h sa p0 aa ab q0 b0 q0 q1 q2 q3 b0 b1 b2 b3 p1 p2 p3 p4 sf old rd tr 0 ask shw an pn gr kd pl wt ban bpn bgr bkd bpl bwt al wo fi ni pa) := hD
  refine lv_aload_n hx hb dX3_sheet_5 rfl (lv_at hl 0 rfl) ?_
  refine lv_iload_n hx hb dX3_sheet_6 rfl (lv_at hl 1 rfl) ?_
  refine kPq (va_runV (As := [.int sh]) (rest := []) ⟨hx, hb, hml, hown, hts⟩ (c_X3_sheetOf_n l D cI cS h sa p0 aa ab q0 b0 old rd tr 0 sf sh hso) (cwV 1 hts gX3_sheet_X3_sheetOf rfl rfl rfl q_X3_sheetOf ⟨Nat.le_of_ble_eq_true rfl, Nat.le_of_ble_eq_true rfl⟩) (kPV hK hP [0, 1] rfl (va_recv hK.1 hP (ci := 3) (q0 := 0) rfl rfl) [.int sh]) rfl rfl hl.1 rfl (lv_room (Nat.le_of_ble_eq_true rfl)) dX3_sheet_7 ⟨Nat.zero_le _, Nat.zero_le _⟩) ?_
  refine lv_astoreN (lv' := [(4, .null), (0, .ref h), (1, .int sh), (2, .int ln), (3, .int nn)]) hx hb dX3_sheet_10 hl (by decide) rfl (fun ls hl => ?_)
  refine lv_aloadN hx hb dX3_sheet_12 (lv_at hl 0 rfl) ?_
  refine lv_ifnonnullN hx hb dX3_sheet_14 ?_
  refine lv_iconst (v := (-1)) hx hb dX3_sheet_17 (by decide) ?_
  have hR1 : (fX3_sheet_n ) = ((-1), 0) := rfl
  rw [hQ]
  exact W.iret (v := (-1)) hx hb hr (fun t ht hW => ⟨⟨_, (), rfl, (by show _ = _; rw [hR1]), (by show va_P D vwCl _ t.heap; rw [hR1, ht]; exact hP)⟩, hS.F ht⟩) hS.2.2 dX3_sheet_18

def fX3_sheet_s (la le : Int32) (ce : Nat → Int32) (ln nn : Int32) : Int32 × Int32 × Int32 × Int32 × (Nat → Int32) := (if (fX3_within ln 2) = 0 then ((-2), 0, la, le, ce) else (if nn ≤ 60 then (if (0 : Int32) ≤ nn then (1, 0, (fX2_renew ce nn.toNatClampNeg ln nn).1, (fX2_renew ce nn.toNatClampNeg ln nn).2.1, (fX2_renew ce nn.toNatClampNeg ln nn).2.2) else (((-10) - 4), 4, la, le, ce)) else ((-2), 0, la, le, ce)))
set_option maxHeartbeats 4000000 in
set_option maxRecDepth 100000 in
theorem c_X3_sheet_s (l : Launch) (D : va_G) (cI cS : ClassId) (h sa p0 aa ab q0 q1 q2 q3 b0 b1 b2 b3 p1 p2 p3 p4 j0 j1 : Nat) (sf : Nat → Option Nat) (old rd tr lf : Int32) (ask shw : Nat → Int32) (an pn gr : Int32) (kd pl wt : Nat → Int32) (ban bpn bgr : Int32) (bkd bpl bwt al wo fi ni : Nat → Int32) (pa la le : Int32) (ce : Nat → Int32) (sh ln nn : Int32) (hs0 : ¬ sh < 0) (hs1 : ¬ nI 4 ≤ sh) (hsj : sf sh.toNatClampNeg = some j0) : MMi l yX3_sheet wsX3_sheet { frames := 2, cells := 0, slots := 0, locals := 45 } D cI cS (wL19 cI cS h sa p0 aa ab q0 b0 q0 q1 q2 q3 b0 b1 b2 b3 p1 p2 p3 p4 j0 j1 sf old rd tr lf ask shw an pn gr kd pl wt ban bpn bgr bkd bpl bwt al wo fi ni pa la le ce) [.ref h, .int sh, .int ln, .int nn] ((fX3_sheet_s la le ce ln nn).1) (wL19 cI cS h sa p0 aa ab q0 b0 q0 q1 q2 q3 b0 b1 b2 b3 p1 p2 p3 p4 j0 j1 sf old rd tr ((fX3_sheet_s la le ce ln nn).2.1) ask shw an pn gr kd pl wt ban bpn bgr bkd bpl bwt al wo fi ni pa ((fX3_sheet_s la le ce ln nn).2.2.1) ((fX3_sheet_s la le ce ln nn).2.2.2.1) ((fX3_sheet_s la le ce ln nn).2.2.2.2)) := by
  refine kEnterM (cc := cX3_sheet) (maxL := 5) (ret := (some .int)) (by decide) rfl (Nat.le_of_ble_eq_true rfl) ?_
  intro p e s m below meth c ls Qf hQ hx hb hml hr hlocks hown hts hK hP hD hS hl
  have hown : s.vm.findClass RX3 = some m.cls := hown
  have hl : lv_has ls 5 [(0, .ref h), (1, .int sh), (2, .int ln), (3, .int nn)] := hl
  generalize kA (wL19 cI cS h sa p0 aa ab q0 b0 q0 q1 q2 q3 b0 b1 b2 b3 p1 p2 p3 p4 j0 j1 sf old rd tr lf ask shw an pn gr kd pl wt ban bpn bgr bkd bpl bwt al wo fi ni pa la le ce) = A at hQ hD hS
  refine lv_aload_n hx hb dX3_sheet_0 rfl (lv_at hl 0 rfl) ?_
  refine lv_iconst (v := 0) hx hb dX3_sheet_1 (by decide) ?_
  refine va_put (D := D) (ci := 3) (v := .int 0) (ty := tyX3 9) (C := RX3) (T := TX3) (N := 10) hx hb hts (fun _ h => List.mem_cons_of_mem _ (List.mem_append_left _ (List.mem_append_right _ h))) tyX3 tyX3_ok nmX3 hown hK.1 hP hD hS 0 rfl rfl 9 (by decide) (hts (.fieldLink RX3 45 "LieNights" "lastFault" "I") (List.mem_of_getElem? (i := 1) rfl)) (fun _ h9 => h9) rfl (tyX3_ok 9 (by decide)) rfl rfl (Nat.le_of_ble_eq_true rfl) dX3_sheet_2 (fun H locs hP hD hS => ?_)
  have hP : va_P D vwCl (wL19 cI cS h sa p0 aa ab q0 b0 q0 q1 q2 q3 b0 b1 b2 b3 p1 p2 p3 p4 j0 j1 sf old rd tr 0 ask shw an pn gr kd pl wt ban bpn bgr bkd bpl bwt al wo fi ni pa la le ce) H := hP
  have hD : va_D A (wL19 cI cS h sa p0 aa ab q0 b0 q0 q1 q2 q3 b0 b1 b2 b3 p1 p2 p3 p4 j0 j1 sf old rd tr 0 ask shw an pn gr kd pl wt ban bpn bgr bkd bpl bwt al wo fi ni pa la le ce) := hD
  refine lv_aload_n hx hb dX3_sheet_5 rfl (lv_at hl 0 rfl) ?_
  refine lv_iload_n hx hb dX3_sheet_6 rfl (lv_at hl 1 rfl) ?_
  refine kPq (va_runV (As := [.int sh]) (rest := []) ⟨hx, hb, hml, hown, hts⟩ (c_X3_sheetOf_s l D cI cS h sa p0 aa ab q0 b0 old rd tr 0 sf sh hs0 hs1) (cwV 1 hts gX3_sheet_X3_sheetOf rfl rfl rfl q_X3_sheetOf ⟨Nat.le_of_ble_eq_true rfl, Nat.le_of_ble_eq_true rfl⟩) (kPV hK hP [0, 1] rfl (va_recv hK.1 hP (ci := 3) (q0 := 0) rfl rfl) [.int sh]) rfl rfl hl.1 rfl (lv_room (Nat.le_of_ble_eq_true rfl)) dX3_sheet_7 ⟨Nat.zero_le _, Nat.zero_le _⟩) ?_
  rw [hsj]
  refine lv_astore (lv' := [(4, .ref j0), (0, .ref h), (1, .int sh), (2, .int ln), (3, .int nn)]) hx hb dX3_sheet_10 hl (by decide) rfl (fun ls hl => ?_)
  refine lv_aload hx hb dX3_sheet_12 (lv_at hl 0 rfl) ?_
  refine lv_ifnonnull (tgt := 19) hx hb dX3_sheet_14 (by decide) ?_
  refine lv_iload_n hx hb dX3_sheet_19 rfl (lv_at hl 3 rfl) ?_
  refine lv_iconst (v := 2) hx hb dX3_sheet_20 (by decide) ?_
  refine kPi (va_runS (As := [.int ln, .int 2]) (rest := []) ⟨hx, hb, hml, hown, hts⟩ (c_X3_within l D cI cS ln 2) (va_cwS 2 hts gX3_sheet_X3_within rfl rfl rfl q_X3_within.2 ⟨Nat.le_of_ble_eq_true rfl, Nat.le_of_ble_eq_true rfl⟩) (kPS hK hP [] rfl [.int ln, .int 2]) rfl rfl hl.1 rfl (lv_room (Nat.le_of_ble_eq_true rfl)) dX3_sheet_21 ⟨Nat.zero_le _, Nat.zero_le _⟩) ?_
  refine lv_if_eq (tgt := 33) hx hb dX3_sheet_24 (by decide) (fun c24 => ?_) (fun c24 => ?_)
  · skip
    refine lv_bipush (v := (-2)) hx hb dX3_sheet_33 (by decide) ?_
    have hR1 : (fX3_sheet_s la le ce ln nn) = ((-2), 0, la, le, ce) := (by unfold fX3_sheet_s; rw [if_pos c24])
    rw [hQ]
    exact W.iret (v := (-2)) hx hb hr (fun t ht hW => ⟨⟨_, (), rfl, (by show _ = _; rw [hR1]), (by show va_P D vwCl _ t.heap; rw [hR1, ht]; exact hP)⟩, hS.F ht⟩) hS.2.2 dX3_sheet_35
  refine lv_iload_n hx hb dX3_sheet_27 rfl (lv_at hl 4 rfl) ?_
  refine lv_bipush (v := 60) hx hb dX3_sheet_28 (by decide) ?_
  refine lv_icmp_le (tgt := 36) hx hb dX3_sheet_30 (by decide) (fun c30 => ?_) (fun c30 => ?_)
  · skip
    refine lv_iload_n hx hb dX3_sheet_36 rfl (lv_at hl 4 rfl) ?_
    refine lv_if_ge (tgt := 46) hx hb dX3_sheet_37 (by decide) (fun c37 => ?_) (fun c37 => ?_)
    · skip
      have hw := kRange c37 c30
      refine lv_aload hx hb dX3_sheet_46 (lv_at hl 0 rfl) ?_
      refine lv_iload_n hx hb dX3_sheet_48 rfl (lv_at hl 3 rfl) ?_
      refine lv_iload_n hx hb dX3_sheet_49 rfl (lv_at hl 4 rfl) ?_
      refine kMv (wl' := (wL19 cI cS h sa p0 aa ab q0 b0 q0 q1 q2 q3 b0 b1 b2 b3 p1 p2 p3 p4 j0 j1 sf old rd tr 0 ask shw an pn gr kd pl wt ban bpn bgr bkd bpl bwt al wo fi ni pa ((fX2_renew ce nn.toNatClampNeg ln nn).1) ((fX2_renew ce nn.toNatClampNeg ln nn).2.1) ((fX2_renew ce nn.toNatClampNeg ln nn).2.2))) (wc := (wSh cI j0 j1 la le ce)) (w1 := (wSh cI j0 j1 ((fX2_renew ce nn.toNatClampNeg ln nn).1) ((fX2_renew ce nn.toNatClampNeg ln nn).2.1) ((fX2_renew ce nn.toNatClampNeg ln nn).2.2))) hP hD hS [17, 18] rfl rfl rfl (va_runV (As := [.int ln, .int nn]) (rest := []) ⟨hx, hb, hml, hown, hts⟩ (c_X2_renew l D cI cS j0 j1 la le ce nn.toNatClampNeg ln nn hw.1 hw.2) (cwV 2 hts gX3_sheet_X2_renew rfl rfl rfl q_X2_renew ⟨Nat.le_of_ble_eq_true rfl, Nat.le_of_ble_eq_true rfl⟩) (kMV hK hP hD [17, 18] rfl rfl (va_recv hK.1 hP (ci := 2) (q0 := 17) rfl rfl) [.int ln, .int nn]) rfl rfl hl.1 rfl (lv_room (Nat.le_of_ble_eq_true rfl)) dX3_sheet_50 ⟨Nat.zero_le _, Nat.zero_le _⟩) (fun H locs hP hD hS => ?_)
      refine lv_iconst (v := 1) hx hb dX3_sheet_53 (by decide) ?_
      have hR2 : (fX3_sheet_s la le ce ln nn) = (1, 0, (fX2_renew ce nn.toNatClampNeg ln nn).1, (fX2_renew ce nn.toNatClampNeg ln nn).2.1, (fX2_renew ce nn.toNatClampNeg ln nn).2.2) := (by unfold fX3_sheet_s; rw [if_neg c24, if_pos c30, if_pos c37])
      rw [hQ]
      exact W.iret (v := 1) hx hb hr (fun t ht hW => ⟨⟨_, (), rfl, (by show _ = _; rw [hR2]), (by show va_P D vwCl _ t.heap; rw [hR2, ht]; exact hP)⟩, hS.F ht⟩) hS.2.2 dX3_sheet_54
    refine lv_aload_n hx hb dX3_sheet_40 rfl (lv_at hl 1 rfl) ?_
    refine lv_iconst (v := 4) hx hb dX3_sheet_41 (by decide) ?_
    refine kMi (wl' := (wL19 cI cS h sa p0 aa ab q0 b0 q0 q1 q2 q3 b0 b1 b2 b3 p1 p2 p3 p4 j0 j1 sf old rd tr 4 ask shw an pn gr kd pl wt ban bpn bgr bkd bpl bwt al wo fi ni pa la le ce)) (wc := (wL1 cI h sa p0 aa ab q0 b0 old rd tr 0)) (w1 := (wL1 cI h sa p0 aa ab q0 b0 old rd tr 4)) hP hD hS [0] rfl rfl rfl (va_runV (As := [.int 4]) (rest := []) ⟨hx, hb, hml, hown, hts⟩ (c_X3_faulted l D cI cS h sa p0 aa ab q0 b0 old rd tr 0 4) (cwV 1 hts gX3_sheet_X3_faulted rfl rfl rfl q_X3_faulted ⟨Nat.le_of_ble_eq_true rfl, Nat.le_of_ble_eq_true rfl⟩) (kMV hK hP hD [0] rfl rfl (va_recv hK.1 hP (ci := 3) (q0 := 0) rfl rfl) [.int 4]) rfl rfl hl.1 rfl (lv_room (Nat.le_of_ble_eq_true rfl)) dX3_sheet_42 ⟨Nat.zero_le _, Nat.zero_le _⟩) (fun H locs hP hD hS => ?_)
    have hR3 : (fX3_sheet_s la le ce ln nn) = (((-10) - 4), 4, la, le, ce) := (by unfold fX3_sheet_s; rw [if_neg c24, if_pos c30, if_neg c37])
    rw [hQ]
    exact W.iret (v := ((-10) - 4)) hx hb hr (fun t ht hW => ⟨⟨_, (), rfl, (by show _ = _; rw [hR3]), (by show va_P D vwCl _ t.heap; rw [hR3, ht]; exact hP)⟩, hS.F ht⟩) hS.2.2 dX3_sheet_45
  refine lv_bipush (v := (-2)) hx hb dX3_sheet_33 (by decide) ?_
  have hR4 : (fX3_sheet_s la le ce ln nn) = ((-2), 0, la, le, ce) := (by unfold fX3_sheet_s; rw [if_neg c24, if_neg c30])
  rw [hQ]
  exact W.iret (v := (-2)) hx hb hr (fun t ht hW => ⟨⟨_, (), rfl, (by show _ = _; rw [hR4]), (by show va_P D vwCl _ t.heap; rw [hR4, ht]; exact hP)⟩, hS.F ht⟩) hS.2.2 dX3_sheet_35

def fX3_lose_n  : Int32 := (-1)
theorem q_X3_lose : yX3_lose.cls = RX3 ∧ yX3_lose.cls ≠ "java/lang/invoke/MethodHandle" ∧ yX3_lose.cls ≠ "java/lang/invoke/VarHandle" ∧ (parseMethodDescriptor yX3_lose.desc).map (fun d => d.parameters.length) = some 1 := by decide +kernel
set_option maxHeartbeats 4000000 in
set_option maxRecDepth 100000 in
theorem c_X3_lose_n (l : Launch) (D : va_G) (cI cS : ClassId) (h sa p0 aa ab q0 q1 q2 q3 b0 b1 b2 b3 p1 p2 p3 p4 : Nat) (sf : Nat → Option Nat) (old rd tr lf : Int32) (ask shw : Nat → Int32) (an pn gr : Int32) (kd pl wt : Nat → Int32) (ban bpn bgr : Int32) (bkd bpl bwt al wo fi ni : Nat → Int32) (pa sh : Int32) (hso : sh < 0 ∨ nI 4 ≤ sh) : MMi l yX3_lose wsX3_lose { frames := 1, cells := 0, slots := 0, locals := 21 } D cI cS (wL17 cI cS h sa p0 aa ab q0 b0 q0 q1 q2 q3 b0 b1 b2 b3 p1 p2 p3 p4 sf old rd tr lf ask shw an pn gr kd pl wt ban bpn bgr bkd bpl bwt al wo fi ni pa) [.ref h, .int sh] fX3_lose_n (wL17 cI cS h sa p0 aa ab q0 b0 q0 q1 q2 q3 b0 b1 b2 b3 p1 p2 p3 p4 sf old rd tr lf ask shw an pn gr kd pl wt ban bpn bgr bkd bpl bwt al wo fi ni pa) := by
  refine kEnterM (cc := cX3_lose) (maxL := 3) (ret := (some .int)) (by decide) rfl (Nat.le_of_ble_eq_true rfl) ?_
  intro p e s m below meth c ls Qf hQ hx hb hml hr hlocks hown hts hK hP hD hS hl
  have hown : s.vm.findClass RX3 = some m.cls := hown
  have hl : lv_has ls 3 [(0, .ref h), (1, .int sh)] := hl
  generalize kA (wL17 cI cS h sa p0 aa ab q0 b0 q0 q1 q2 q3 b0 b1 b2 b3 p1 p2 p3 p4 sf old rd tr lf ask shw an pn gr kd pl wt ban bpn bgr bkd bpl bwt al wo fi ni pa) = A at hQ hD hS
  refine lv_aload_n hx hb dX3_lose_0 rfl (lv_at hl 0 rfl) ?_
  refine lv_iload_n hx hb dX3_lose_1 rfl (lv_at hl 1 rfl) ?_
  refine kPq (va_runV (As := [.int sh]) (rest := []) ⟨hx, hb, hml, hown, hts⟩ (c_X3_sheetOf_n l D cI cS h sa p0 aa ab q0 b0 old rd tr lf sf sh hso) (cwV 1 hts gX3_lose_X3_sheetOf rfl rfl rfl q_X3_sheetOf ⟨Nat.le_of_ble_eq_true rfl, Nat.le_of_ble_eq_true rfl⟩) (kPV hK hP [0, 1] rfl (va_recv hK.1 hP (ci := 3) (q0 := 0) rfl rfl) [.int sh]) rfl rfl hl.1 rfl (lv_room (Nat.le_of_ble_eq_true rfl)) dX3_lose_2 ⟨Nat.zero_le _, Nat.zero_le _⟩) ?_
  refine lv_astore_nN (lv' := [(2, .null), (0, .ref h), (1, .int sh)]) hx hb dX3_lose_5 rfl hl (by decide) rfl (fun ls hl => ?_)
  refine lv_aload_nN hx hb dX3_lose_6 rfl (lv_at hl 0 rfl) ?_
  refine lv_ifnonnullN hx hb dX3_lose_7 ?_
  refine lv_iconst (v := (-1)) hx hb dX3_lose_10 (by decide) ?_
  have hR1 : (fX3_lose_n ) = (-1) := rfl
  rw [hQ]
  exact W.iret (v := (-1)) hx hb hr (fun t ht hW => ⟨⟨_, (), rfl, (by show _ = _; rw [hR1]), (by show va_P D vwCl _ t.heap; rw [ht]; exact hP)⟩, hS.F ht⟩) hS.2.2 dX3_lose_11

def fX3_lose_s (la le : Int32) : Int32 × Int32 × Int32 := (if (fX2_isNothing la) = 0 then (1, fX2_clear.1, fX2_clear.2) else (0, la, le))
set_option maxHeartbeats 4000000 in
set_option maxRecDepth 100000 in
theorem c_X3_lose_s (l : Launch) (D : va_G) (cI cS : ClassId) (h sa p0 aa ab q0 q1 q2 q3 b0 b1 b2 b3 p1 p2 p3 p4 j0 j1 : Nat) (sf : Nat → Option Nat) (old rd tr lf : Int32) (ask shw : Nat → Int32) (an pn gr : Int32) (kd pl wt : Nat → Int32) (ban bpn bgr : Int32) (bkd bpl bwt al wo fi ni : Nat → Int32) (pa la le : Int32) (ce : Nat → Int32) (sh : Int32) (hs0 : ¬ sh < 0) (hs1 : ¬ nI 4 ≤ sh) (hsj : sf sh.toNatClampNeg = some j0) : MMi l yX3_lose wsX3_lose { frames := 1, cells := 0, slots := 0, locals := 21 } D cI cS (wL19 cI cS h sa p0 aa ab q0 b0 q0 q1 q2 q3 b0 b1 b2 b3 p1 p2 p3 p4 j0 j1 sf old rd tr lf ask shw an pn gr kd pl wt ban bpn bgr bkd bpl bwt al wo fi ni pa la le ce) [.ref h, .int sh] ((fX3_lose_s la le).1) (wL19 cI cS h sa p0 aa ab q0 b0 q0 q1 q2 q3 b0 b1 b2 b3 p1 p2 p3 p4 j0 j1 sf old rd tr lf ask shw an pn gr kd pl wt ban bpn bgr bkd bpl bwt al wo fi ni pa ((fX3_lose_s la le).2.1) ((fX3_lose_s la le).2.2) ce) := by
  refine kEnterM (cc := cX3_lose) (maxL := 3) (ret := (some .int)) (by decide) rfl (Nat.le_of_ble_eq_true rfl) ?_
  intro p e s m below meth c ls Qf hQ hx hb hml hr hlocks hown hts hK hP hD hS hl
  have hown : s.vm.findClass RX3 = some m.cls := hown
  have hl : lv_has ls 3 [(0, .ref h), (1, .int sh)] := hl
  generalize kA (wL19 cI cS h sa p0 aa ab q0 b0 q0 q1 q2 q3 b0 b1 b2 b3 p1 p2 p3 p4 j0 j1 sf old rd tr lf ask shw an pn gr kd pl wt ban bpn bgr bkd bpl bwt al wo fi ni pa la le ce) = A at hQ hD hS
  refine lv_aload_n hx hb dX3_lose_0 rfl (lv_at hl 0 rfl) ?_
  refine lv_iload_n hx hb dX3_lose_1 rfl (lv_at hl 1 rfl) ?_
  refine kPq (va_runV (As := [.int sh]) (rest := []) ⟨hx, hb, hml, hown, hts⟩ (c_X3_sheetOf_s l D cI cS h sa p0 aa ab q0 b0 old rd tr lf sf sh hs0 hs1) (cwV 1 hts gX3_lose_X3_sheetOf rfl rfl rfl q_X3_sheetOf ⟨Nat.le_of_ble_eq_true rfl, Nat.le_of_ble_eq_true rfl⟩) (kPV hK hP [0, 1] rfl (va_recv hK.1 hP (ci := 3) (q0 := 0) rfl rfl) [.int sh]) rfl rfl hl.1 rfl (lv_room (Nat.le_of_ble_eq_true rfl)) dX3_lose_2 ⟨Nat.zero_le _, Nat.zero_le _⟩) ?_
  rw [hsj]
  refine lv_astore_n (lv' := [(2, .ref j0), (0, .ref h), (1, .int sh)]) hx hb dX3_lose_5 rfl hl (by decide) rfl (fun ls hl => ?_)
  refine lv_aload_n hx hb dX3_lose_6 rfl (lv_at hl 0 rfl) ?_
  refine lv_ifnonnull (tgt := 12) hx hb dX3_lose_7 (by decide) ?_
  refine lv_aload_n hx hb dX3_lose_12 rfl (lv_at hl 0 rfl) ?_
  refine kPi (va_runV (As := []) (rest := []) ⟨hx, hb, hml, hown, hts⟩ (c_X2_isNothing l D cI cS j0 j1 la le ce) (cwV 0 hts gX3_lose_X2_isNothing rfl rfl rfl q_X2_isNothing ⟨Nat.le_of_ble_eq_true rfl, Nat.le_of_ble_eq_true rfl⟩) (kPV hK hP [17, 18] rfl (va_recv hK.1 hP (ci := 2) (q0 := 17) rfl rfl) []) rfl rfl hl.1 rfl (lv_room (Nat.le_of_ble_eq_true rfl)) dX3_lose_13 ⟨Nat.zero_le _, Nat.zero_le _⟩) ?_
  refine lv_if_eq (tgt := 21) hx hb dX3_lose_16 (by decide) (fun c16 => ?_) (fun c16 => ?_)
  · skip
    refine lv_aload_n hx hb dX3_lose_21 rfl (lv_at hl 0 rfl) ?_
    refine kMv (wl' := (wL19 cI cS h sa p0 aa ab q0 b0 q0 q1 q2 q3 b0 b1 b2 b3 p1 p2 p3 p4 j0 j1 sf old rd tr lf ask shw an pn gr kd pl wt ban bpn bgr bkd bpl bwt al wo fi ni pa fX2_clear.1 fX2_clear.2 ce)) (wc := (wSh cI j0 j1 la le ce)) (w1 := (wSh cI j0 j1 fX2_clear.1 fX2_clear.2 ce)) hP hD hS [17, 18] rfl rfl rfl (va_runV (As := []) (rest := []) ⟨hx, hb, hml, hown, hts⟩ (c_X2_clear l D cI cS j0 j1 la le ce) (cwV 0 hts gX3_lose_X2_clear rfl rfl rfl q_X2_clear ⟨Nat.le_of_ble_eq_true rfl, Nat.le_of_ble_eq_true rfl⟩) (kMV hK hP hD [17, 18] rfl rfl (va_recv hK.1 hP (ci := 2) (q0 := 17) rfl rfl) []) rfl rfl hl.1 rfl (lv_room (Nat.le_of_ble_eq_true rfl)) dX3_lose_22 ⟨Nat.zero_le _, Nat.zero_le _⟩) (fun H locs hP hD hS => ?_)
    refine lv_iconst (v := 1) hx hb dX3_lose_25 (by decide) ?_
    have hR1 : (fX3_lose_s la le) = (1, fX2_clear.1, fX2_clear.2) := (by unfold fX3_lose_s; rw [if_pos c16])
    rw [hQ]
    exact W.iret (v := 1) hx hb hr (fun t ht hW => ⟨⟨_, (), rfl, (by show _ = _; rw [hR1]), (by show va_P D vwCl _ t.heap; rw [hR1, ht]; exact hP)⟩, hS.F ht⟩) hS.2.2 dX3_lose_26
  refine lv_iconst (v := 0) hx hb dX3_lose_19 (by decide) ?_
  have hR2 : (fX3_lose_s la le) = (0, la, le) := (by unfold fX3_lose_s; rw [if_neg c16])
  rw [hQ]
  exact W.iret (v := 0) hx hb hr (fun t ht hW => ⟨⟨_, (), rfl, (by show _ = _; rw [hR2]), (by show va_P D vwCl _ t.heap; rw [hR2, ht]; exact hP)⟩, hS.F ht⟩) hS.2.2 dX3_lose_20

def fX3_put_n  : Int32 × Int32 := ((-1), 0)
theorem q_X3_put : yX3_put.cls = RX3 ∧ yX3_put.cls ≠ "java/lang/invoke/MethodHandle" ∧ yX3_put.cls ≠ "java/lang/invoke/VarHandle" ∧ (parseMethodDescriptor yX3_put.desc).map (fun d => d.parameters.length) = some 3 := by decide +kernel
set_option maxHeartbeats 4000000 in
set_option maxRecDepth 100000 in
theorem c_X3_put_n (l : Launch) (D : va_G) (cI cS : ClassId) (h sa p0 aa ab q0 q1 q2 q3 b0 b1 b2 b3 p1 p2 p3 p4 : Nat) (sf : Nat → Option Nat) (old rd tr lf : Int32) (ask shw : Nat → Int32) (an pn gr : Int32) (kd pl wt : Nat → Int32) (ban bpn bgr : Int32) (bkd bpl bwt al wo fi ni : Nat → Int32) (pa sh i v : Int32) (hso : sh < 0 ∨ nI 4 ≤ sh) : MMi l yX3_put wsX3_put { frames := 2, cells := 0, slots := 0, locals := 44 } D cI cS (wL17 cI cS h sa p0 aa ab q0 b0 q0 q1 q2 q3 b0 b1 b2 b3 p1 p2 p3 p4 sf old rd tr lf ask shw an pn gr kd pl wt ban bpn bgr bkd bpl bwt al wo fi ni pa) [.ref h, .int sh, .int i, .int v] fX3_put_n.1 (wL17 cI cS h sa p0 aa ab q0 b0 q0 q1 q2 q3 b0 b1 b2 b3 p1 p2 p3 p4 sf old rd tr fX3_put_n.2 ask shw an pn gr kd pl wt ban bpn bgr bkd bpl bwt al wo fi ni pa) := by
  refine kEnterM (cc := cX3_put) (maxL := 5) (ret := (some .int)) (by decide) rfl (Nat.le_of_ble_eq_true rfl) ?_
  intro p e s m below meth c ls Qf hQ hx hb hml hr hlocks hown hts hK hP hD hS hl
  have hown : s.vm.findClass RX3 = some m.cls := hown
  have hl : lv_has ls 5 [(0, .ref h), (1, .int sh), (2, .int i), (3, .int v)] := hl
  generalize kA (wL17 cI cS h sa p0 aa ab q0 b0 q0 q1 q2 q3 b0 b1 b2 b3 p1 p2 p3 p4 sf old rd tr lf ask shw an pn gr kd pl wt ban bpn bgr bkd bpl bwt al wo fi ni pa) = A at hQ hD hS
  refine lv_aload_n hx hb dX3_put_0 rfl (lv_at hl 0 rfl) ?_
  refine lv_iconst (v := 0) hx hb dX3_put_1 (by decide) ?_
  refine va_put (D := D) (ci := 3) (v := .int 0) (ty := tyX3 9) (C := RX3) (T := TX3) (N := 10) hx hb hts (fun _ h => List.mem_cons_of_mem _ (List.mem_append_left _ (List.mem_append_right _ h))) tyX3 tyX3_ok nmX3 hown hK.1 hP hD hS 0 rfl rfl 9 (by decide) (hts (.fieldLink RX3 45 "LieNights" "lastFault" "I") (List.mem_of_getElem? (i := 1) rfl)) (fun _ h9 => h9) rfl (tyX3_ok 9 (by decide)) rfl rfl (Nat.le_of_ble_eq_true rfl) dX3_put_2 (fun H locs hP hD hS => ?_)
  have hP : va_P D vwCl (wL17 cI cS h sa p0 aa ab q0 b0 q0 q1 q2 q3 b0 b1 b2 b3 p1 p2 p3 p4 sf old rd tr 0 ask shw an pn gr kd pl wt ban bpn bgr bkd bpl bwt al wo fi ni pa) H := hP
  have hD : va_D A (wL17 cI cS h sa p0 aa ab q0 b0 q0 q1 q2 q3 b0 b1 b2 b3 p1 p2 p3 p4 sf old rd tr 0 ask shw an pn gr kd pl wt ban bpn bgr bkd bpl bwt al wo fi ni pa) := hD
  refine lv_aload_n hx hb dX3_put_5 rfl (lv_at hl 0 rfl) ?_
  refine lv_iload_n hx hb dX3_put_6 rfl (lv_at hl 1 rfl) ?_
  refine kPq (va_runV (As := [.int sh]) (rest := []) ⟨hx, hb, hml, hown, hts⟩ (c_X3_sheetOf_n l D cI cS h sa p0 aa ab q0 b0 old rd tr 0 sf sh hso) (cwV 1 hts gX3_put_X3_sheetOf rfl rfl rfl q_X3_sheetOf ⟨Nat.le_of_ble_eq_true rfl, Nat.le_of_ble_eq_true rfl⟩) (kPV hK hP [0, 1] rfl (va_recv hK.1 hP (ci := 3) (q0 := 0) rfl rfl) [.int sh]) rfl rfl hl.1 rfl (lv_room (Nat.le_of_ble_eq_true rfl)) dX3_put_7 ⟨Nat.zero_le _, Nat.zero_le _⟩) ?_
  refine lv_astoreN (lv' := [(4, .null), (0, .ref h), (1, .int sh), (2, .int i), (3, .int v)]) hx hb dX3_put_10 hl (by decide) rfl (fun ls hl => ?_)
  refine lv_aloadN hx hb dX3_put_12 (lv_at hl 0 rfl) ?_
  refine lv_ifnonnullN hx hb dX3_put_14 ?_
  refine lv_iconst (v := (-1)) hx hb dX3_put_17 (by decide) ?_
  have hR1 : (fX3_put_n ) = ((-1), 0) := rfl
  rw [hQ]
  exact W.iret (v := (-1)) hx hb hr (fun t ht hW => ⟨⟨_, (), rfl, (by show _ = _; rw [hR1]), (by show va_P D vwCl _ t.heap; rw [hR1, ht]; exact hP)⟩, hS.F ht⟩) hS.2.2 dX3_put_18

def fX3_put_s (la le : Int32) (ce : Nat → Int32) (i v : Int32) : Int32 × Int32 × (Nat → Int32) := (if (fX2_isNothing la) = 0 then (if (fX2_hasCells le i 1) = 0 then (((-10) - 3), 3, ce) else (1, 0, (fX2_set la ce i v))) else (((-10) - 1), 1, ce))
set_option maxHeartbeats 4000000 in
set_option maxRecDepth 100000 in
theorem c_X3_put_s (l : Launch) (D : va_G) (cI cS : ClassId) (h sa p0 aa ab q0 q1 q2 q3 b0 b1 b2 b3 p1 p2 p3 p4 j0 j1 : Nat) (sf : Nat → Option Nat) (old rd tr lf : Int32) (ask shw : Nat → Int32) (an pn gr : Int32) (kd pl wt : Nat → Int32) (ban bpn bgr : Int32) (bkd bpl bwt al wo fi ni : Nat → Int32) (pa la le : Int32) (ce : Nat → Int32) (sh i v : Int32) (hs0 : ¬ sh < 0) (hs1 : ¬ nI 4 ≤ sh) (hsj : sf sh.toNatClampNeg = some j0) : MMi l yX3_put wsX3_put { frames := 2, cells := 0, slots := 0, locals := 44 } D cI cS (wL19 cI cS h sa p0 aa ab q0 b0 q0 q1 q2 q3 b0 b1 b2 b3 p1 p2 p3 p4 j0 j1 sf old rd tr lf ask shw an pn gr kd pl wt ban bpn bgr bkd bpl bwt al wo fi ni pa la le ce) [.ref h, .int sh, .int i, .int v] ((fX3_put_s la le ce i v).1) (wL19 cI cS h sa p0 aa ab q0 b0 q0 q1 q2 q3 b0 b1 b2 b3 p1 p2 p3 p4 j0 j1 sf old rd tr ((fX3_put_s la le ce i v).2.1) ask shw an pn gr kd pl wt ban bpn bgr bkd bpl bwt al wo fi ni pa la le ((fX3_put_s la le ce i v).2.2)) := by
  refine kEnterM (cc := cX3_put) (maxL := 5) (ret := (some .int)) (by decide) rfl (Nat.le_of_ble_eq_true rfl) ?_
  intro p e s m below meth c ls Qf hQ hx hb hml hr hlocks hown hts hK hP hD hS hl
  have hown : s.vm.findClass RX3 = some m.cls := hown
  have hl : lv_has ls 5 [(0, .ref h), (1, .int sh), (2, .int i), (3, .int v)] := hl
  generalize kA (wL19 cI cS h sa p0 aa ab q0 b0 q0 q1 q2 q3 b0 b1 b2 b3 p1 p2 p3 p4 j0 j1 sf old rd tr lf ask shw an pn gr kd pl wt ban bpn bgr bkd bpl bwt al wo fi ni pa la le ce) = A at hQ hD hS
  refine lv_aload_n hx hb dX3_put_0 rfl (lv_at hl 0 rfl) ?_
  refine lv_iconst (v := 0) hx hb dX3_put_1 (by decide) ?_
  refine va_put (D := D) (ci := 3) (v := .int 0) (ty := tyX3 9) (C := RX3) (T := TX3) (N := 10) hx hb hts (fun _ h => List.mem_cons_of_mem _ (List.mem_append_left _ (List.mem_append_right _ h))) tyX3 tyX3_ok nmX3 hown hK.1 hP hD hS 0 rfl rfl 9 (by decide) (hts (.fieldLink RX3 45 "LieNights" "lastFault" "I") (List.mem_of_getElem? (i := 1) rfl)) (fun _ h9 => h9) rfl (tyX3_ok 9 (by decide)) rfl rfl (Nat.le_of_ble_eq_true rfl) dX3_put_2 (fun H locs hP hD hS => ?_)
  have hP : va_P D vwCl (wL19 cI cS h sa p0 aa ab q0 b0 q0 q1 q2 q3 b0 b1 b2 b3 p1 p2 p3 p4 j0 j1 sf old rd tr 0 ask shw an pn gr kd pl wt ban bpn bgr bkd bpl bwt al wo fi ni pa la le ce) H := hP
  have hD : va_D A (wL19 cI cS h sa p0 aa ab q0 b0 q0 q1 q2 q3 b0 b1 b2 b3 p1 p2 p3 p4 j0 j1 sf old rd tr 0 ask shw an pn gr kd pl wt ban bpn bgr bkd bpl bwt al wo fi ni pa la le ce) := hD
  refine lv_aload_n hx hb dX3_put_5 rfl (lv_at hl 0 rfl) ?_
  refine lv_iload_n hx hb dX3_put_6 rfl (lv_at hl 1 rfl) ?_
  refine kPq (va_runV (As := [.int sh]) (rest := []) ⟨hx, hb, hml, hown, hts⟩ (c_X3_sheetOf_s l D cI cS h sa p0 aa ab q0 b0 old rd tr 0 sf sh hs0 hs1) (cwV 1 hts gX3_put_X3_sheetOf rfl rfl rfl q_X3_sheetOf ⟨Nat.le_of_ble_eq_true rfl, Nat.le_of_ble_eq_true rfl⟩) (kPV hK hP [0, 1] rfl (va_recv hK.1 hP (ci := 3) (q0 := 0) rfl rfl) [.int sh]) rfl rfl hl.1 rfl (lv_room (Nat.le_of_ble_eq_true rfl)) dX3_put_7 ⟨Nat.zero_le _, Nat.zero_le _⟩) ?_
  rw [hsj]
  refine lv_astore (lv' := [(4, .ref j0), (0, .ref h), (1, .int sh), (2, .int i), (3, .int v)]) hx hb dX3_put_10 hl (by decide) rfl (fun ls hl => ?_)
  refine lv_aload hx hb dX3_put_12 (lv_at hl 0 rfl) ?_
  refine lv_ifnonnull (tgt := 19) hx hb dX3_put_14 (by decide) ?_
  refine lv_aload hx hb dX3_put_19 (lv_at hl 0 rfl) ?_
  refine kPi (va_runV (As := []) (rest := []) ⟨hx, hb, hml, hown, hts⟩ (c_X2_isNothing l D cI cS j0 j1 la le ce) (cwV 0 hts gX3_put_X2_isNothing rfl rfl rfl q_X2_isNothing ⟨Nat.le_of_ble_eq_true rfl, Nat.le_of_ble_eq_true rfl⟩) (kPV hK hP [17, 18] rfl (va_recv hK.1 hP (ci := 2) (q0 := 17) rfl rfl) []) rfl rfl hl.1 rfl (lv_room (Nat.le_of_ble_eq_true rfl)) dX3_put_21 ⟨Nat.zero_le _, Nat.zero_le _⟩) ?_
  refine lv_if_eq (tgt := 33) hx hb dX3_put_24 (by decide) (fun c24 => ?_) (fun c24 => ?_)
  · skip
    refine lv_aload hx hb dX3_put_33 (lv_at hl 0 rfl) ?_
    refine lv_iload_n hx hb dX3_put_35 rfl (lv_at hl 3 rfl) ?_
    refine lv_iconst (v := 1) hx hb dX3_put_36 (by decide) ?_
    refine kPi (va_runV (As := [.int i, .int 1]) (rest := []) ⟨hx, hb, hml, hown, hts⟩ (c_X2_hasCells l D cI cS j0 j1 la le ce i 1) (cwV 2 hts gX3_put_X2_hasCells rfl rfl rfl q_X2_hasCells ⟨Nat.le_of_ble_eq_true rfl, Nat.le_of_ble_eq_true rfl⟩) (kPV hK hP [17, 18] rfl (va_recv hK.1 hP (ci := 2) (q0 := 17) rfl rfl) [.int i, .int 1]) rfl rfl hl.1 rfl (lv_room (Nat.le_of_ble_eq_true rfl)) dX3_put_37 ⟨Nat.zero_le _, Nat.zero_le _⟩) ?_
    refine lv_if_ne (tgt := 49) hx hb dX3_put_40 (by decide) (fun c40 => ?_) (fun c40 => ?_)
    · skip
      refine lv_aload hx hb dX3_put_49 (lv_at hl 0 rfl) ?_
      refine lv_iload_n hx hb dX3_put_51 rfl (lv_at hl 3 rfl) ?_
      refine lv_iload_n hx hb dX3_put_52 rfl (lv_at hl 4 rfl) ?_
      refine kMv (wl' := (wL19 cI cS h sa p0 aa ab q0 b0 q0 q1 q2 q3 b0 b1 b2 b3 p1 p2 p3 p4 j0 j1 sf old rd tr 0 ask shw an pn gr kd pl wt ban bpn bgr bkd bpl bwt al wo fi ni pa la le (fX2_set la ce i v))) (wc := (wSh cI j0 j1 la le ce)) (w1 := (wSh cI j0 j1 la le (fX2_set la ce i v))) hP hD hS [17, 18] rfl rfl rfl (va_runV (As := [.int i, .int v]) (rest := []) ⟨hx, hb, hml, hown, hts⟩ (c_X2_set l D cI cS j0 j1 la le ce i v) (cwV 2 hts gX3_put_X2_set rfl rfl rfl q_X2_set ⟨Nat.le_of_ble_eq_true rfl, Nat.le_of_ble_eq_true rfl⟩) (kMV hK hP hD [17, 18] rfl rfl (va_recv hK.1 hP (ci := 2) (q0 := 17) rfl rfl) [.int i, .int v]) rfl rfl hl.1 rfl (lv_room (Nat.le_of_ble_eq_true rfl)) dX3_put_53 ⟨Nat.zero_le _, Nat.zero_le _⟩) (fun H locs hP hD hS => ?_)
      refine lv_iconst (v := 1) hx hb dX3_put_56 (by decide) ?_
      have hR1 : (fX3_put_s la le ce i v) = (1, 0, (fX2_set la ce i v)) := (by unfold fX3_put_s; rw [if_pos c24, if_neg c40])
      rw [hQ]
      exact W.iret (v := 1) hx hb hr (fun t ht hW => ⟨⟨_, (), rfl, (by show _ = _; rw [hR1]), (by show va_P D vwCl _ t.heap; rw [hR1, ht]; exact hP)⟩, hS.F ht⟩) hS.2.2 dX3_put_57
    refine lv_aload_n hx hb dX3_put_43 rfl (lv_at hl 1 rfl) ?_
    refine lv_iconst (v := 3) hx hb dX3_put_44 (by decide) ?_
    refine kMi (wl' := (wL19 cI cS h sa p0 aa ab q0 b0 q0 q1 q2 q3 b0 b1 b2 b3 p1 p2 p3 p4 j0 j1 sf old rd tr 3 ask shw an pn gr kd pl wt ban bpn bgr bkd bpl bwt al wo fi ni pa la le ce)) (wc := (wL1 cI h sa p0 aa ab q0 b0 old rd tr 0)) (w1 := (wL1 cI h sa p0 aa ab q0 b0 old rd tr 3)) hP hD hS [0] rfl rfl rfl (va_runV (As := [.int 3]) (rest := []) ⟨hx, hb, hml, hown, hts⟩ (c_X3_faulted l D cI cS h sa p0 aa ab q0 b0 old rd tr 0 3) (cwV 1 hts gX3_put_X3_faulted rfl rfl rfl q_X3_faulted ⟨Nat.le_of_ble_eq_true rfl, Nat.le_of_ble_eq_true rfl⟩) (kMV hK hP hD [0] rfl rfl (va_recv hK.1 hP (ci := 3) (q0 := 0) rfl rfl) [.int 3]) rfl rfl hl.1 rfl (lv_room (Nat.le_of_ble_eq_true rfl)) dX3_put_45 ⟨Nat.zero_le _, Nat.zero_le _⟩) (fun H locs hP hD hS => ?_)
    have hR2 : (fX3_put_s la le ce i v) = (((-10) - 3), 3, ce) := (by unfold fX3_put_s; rw [if_pos c24, if_pos c40])
    rw [hQ]
    exact W.iret (v := ((-10) - 3)) hx hb hr (fun t ht hW => ⟨⟨_, (), rfl, (by show _ = _; rw [hR2]), (by show va_P D vwCl _ t.heap; rw [hR2, ht]; exact hP)⟩, hS.F ht⟩) hS.2.2 dX3_put_48
  refine lv_aload_n hx hb dX3_put_27 rfl (lv_at hl 1 rfl) ?_
  refine lv_iconst (v := 1) hx hb dX3_put_28 (by decide) ?_
  refine kMi (wl' := (wL19 cI cS h sa p0 aa ab q0 b0 q0 q1 q2 q3 b0 b1 b2 b3 p1 p2 p3 p4 j0 j1 sf old rd tr 1 ask shw an pn gr kd pl wt ban bpn bgr bkd bpl bwt al wo fi ni pa la le ce)) (wc := (wL1 cI h sa p0 aa ab q0 b0 old rd tr 0)) (w1 := (wL1 cI h sa p0 aa ab q0 b0 old rd tr 1)) hP hD hS [0] rfl rfl rfl (va_runV (As := [.int 1]) (rest := []) ⟨hx, hb, hml, hown, hts⟩ (c_X3_faulted l D cI cS h sa p0 aa ab q0 b0 old rd tr 0 1) (cwV 1 hts gX3_put_X3_faulted rfl rfl rfl q_X3_faulted ⟨Nat.le_of_ble_eq_true rfl, Nat.le_of_ble_eq_true rfl⟩) (kMV hK hP hD [0] rfl rfl (va_recv hK.1 hP (ci := 3) (q0 := 0) rfl rfl) [.int 1]) rfl rfl hl.1 rfl (lv_room (Nat.le_of_ble_eq_true rfl)) dX3_put_29 ⟨Nat.zero_le _, Nat.zero_le _⟩) (fun H locs hP hD hS => ?_)
  have hR3 : (fX3_put_s la le ce i v) = (((-10) - 1), 1, ce) := (by unfold fX3_put_s; rw [if_neg c24])
  rw [hQ]
  exact W.iret (v := ((-10) - 1)) hx hb hr (fun t ht hW => ⟨⟨_, (), rfl, (by show _ = _; rw [hR3]), (by show va_P D vwCl _ t.heap; rw [hR3, ht]; exact hP)⟩, hS.F ht⟩) hS.2.2 dX3_put_32

def fX3_cell_n  : Int64 × Int32 := ((-9223372036854775808), 0)
theorem q_X3_cell : yX3_cell.cls = RX3 ∧ yX3_cell.cls ≠ "java/lang/invoke/MethodHandle" ∧ yX3_cell.cls ≠ "java/lang/invoke/VarHandle" ∧ (parseMethodDescriptor yX3_cell.desc).map (fun d => d.parameters.length) = some 3 := by decide +kernel
set_option maxHeartbeats 4000000 in
set_option maxRecDepth 100000 in
theorem c_X3_cell_n (l : Launch) (D : va_G) (cI cS : ClassId) (h sa p0 aa ab q0 q1 q2 q3 b0 b1 b2 b3 p1 p2 p3 p4 : Nat) (sf : Nat → Option Nat) (old rd tr lf : Int32) (ask shw : Nat → Int32) (an pn gr : Int32) (kd pl wt : Nat → Int32) (ban bpn bgr : Int32) (bkd bpl bwt al wo fi ni : Nat → Int32) (pa sh i ln : Int32) (hso : sh < 0 ∨ nI 4 ≤ sh) : MMl l yX3_cell wsX3_cell { frames := 2, cells := 0, slots := 0, locals := 43 } D cI cS (wL17 cI cS h sa p0 aa ab q0 b0 q0 q1 q2 q3 b0 b1 b2 b3 p1 p2 p3 p4 sf old rd tr lf ask shw an pn gr kd pl wt ban bpn bgr bkd bpl bwt al wo fi ni pa) [.ref h, .int sh, .int i, .int ln] fX3_cell_n.1 (wL17 cI cS h sa p0 aa ab q0 b0 q0 q1 q2 q3 b0 b1 b2 b3 p1 p2 p3 p4 sf old rd tr fX3_cell_n.2 ask shw an pn gr kd pl wt ban bpn bgr bkd bpl bwt al wo fi ni pa) := by
  refine kEnterM (cc := cX3_cell) (maxL := 6) (ret := (some .long)) (by decide) rfl (Nat.le_of_ble_eq_true rfl) ?_
  intro p e s m below meth c ls Qf hQ hx hb hml hr hlocks hown hts hK hP hD hS hl
  have hown : s.vm.findClass RX3 = some m.cls := hown
  have hl : lv_has ls 6 [(0, .ref h), (1, .int sh), (2, .int i), (3, .int ln)] := hl
  generalize kA (wL17 cI cS h sa p0 aa ab q0 b0 q0 q1 q2 q3 b0 b1 b2 b3 p1 p2 p3 p4 sf old rd tr lf ask shw an pn gr kd pl wt ban bpn bgr bkd bpl bwt al wo fi ni pa) = A at hQ hD hS
  refine lv_aload_n hx hb dX3_cell_0 rfl (lv_at hl 0 rfl) ?_
  refine lv_iconst (v := 0) hx hb dX3_cell_1 (by decide) ?_
  refine va_put (D := D) (ci := 3) (v := .int 0) (ty := tyX3 9) (C := RX3) (T := TX3) (N := 10) hx hb hts (fun _ h => List.mem_cons_of_mem _ (List.mem_append_left _ (List.mem_append_right _ h))) tyX3 tyX3_ok nmX3 hown hK.1 hP hD hS 0 rfl rfl 9 (by decide) (hts (.fieldLink RX3 45 "LieNights" "lastFault" "I") (List.mem_of_getElem? (i := 1) rfl)) (fun _ h9 => h9) rfl (tyX3_ok 9 (by decide)) rfl rfl (Nat.le_of_ble_eq_true rfl) dX3_cell_2 (fun H locs hP hD hS => ?_)
  have hP : va_P D vwCl (wL17 cI cS h sa p0 aa ab q0 b0 q0 q1 q2 q3 b0 b1 b2 b3 p1 p2 p3 p4 sf old rd tr 0 ask shw an pn gr kd pl wt ban bpn bgr bkd bpl bwt al wo fi ni pa) H := hP
  have hD : va_D A (wL17 cI cS h sa p0 aa ab q0 b0 q0 q1 q2 q3 b0 b1 b2 b3 p1 p2 p3 p4 sf old rd tr 0 ask shw an pn gr kd pl wt ban bpn bgr bkd bpl bwt al wo fi ni pa) := hD
  refine lv_aload_n hx hb dX3_cell_5 rfl (lv_at hl 0 rfl) ?_
  refine lv_iload_n hx hb dX3_cell_6 rfl (lv_at hl 1 rfl) ?_
  refine kPq (va_runV (As := [.int sh]) (rest := []) ⟨hx, hb, hml, hown, hts⟩ (c_X3_sheetOf_n l D cI cS h sa p0 aa ab q0 b0 old rd tr 0 sf sh hso) (cwV 1 hts gX3_cell_X3_sheetOf rfl rfl rfl q_X3_sheetOf ⟨Nat.le_of_ble_eq_true rfl, Nat.le_of_ble_eq_true rfl⟩) (kPV hK hP [0, 1] rfl (va_recv hK.1 hP (ci := 3) (q0 := 0) rfl rfl) [.int sh]) rfl rfl hl.1 rfl (lv_room (Nat.le_of_ble_eq_true rfl)) dX3_cell_7 ⟨Nat.zero_le _, Nat.zero_le _⟩) ?_
  refine lv_astoreN (lv' := [(4, .null), (0, .ref h), (1, .int sh), (2, .int i), (3, .int ln)]) hx hb dX3_cell_10 hl (by decide) rfl (fun ls hl => ?_)
  refine lv_aloadN hx hb dX3_cell_12 (lv_at hl 0 rfl) ?_
  refine lv_ifnullN (tgt := 25) hx hb dX3_cell_14 (by decide) ?_
  refine lv_ldc2 hx hb hown (hts (.constantLong RX3 135 (-9223372036854775808)) (List.mem_of_getElem? (i := 2) rfl)) dX3_cell_25 ?_
  have hR1 : (fX3_cell_n ) = ((-9223372036854775808), 0) := rfl
  rw [hQ]
  exact W.lret (v := (-9223372036854775808)) hx hb hr (fun t ht hW => ⟨⟨_, (), rfl, (by show _ = _; rw [hR1]), (by show va_P D vwCl _ t.heap; rw [hR1, ht]; exact hP)⟩, hS.F ht⟩) hS.2.2 dX3_cell_28

def fX3_cell_s (la le : Int32) (ce : Nat → Int32) (i ln : Int32) : Int64 × Int32 := (if (fX3_within ln 2) = 0 then ((-9223372036854775808), 0) else (if (fX2_faultAs la ln) = 0 then (if (fX2_hasCells le i 1) = 0 then ((-9223372036854775808), 3) else ((Int32.toInt64 (fX2_get ce i)), 0)) else ((-9223372036854775808), (fX2_faultAs la ln))))
set_option maxHeartbeats 4000000 in
set_option maxRecDepth 100000 in
theorem c_X3_cell_s (l : Launch) (D : va_G) (cI cS : ClassId) (h sa p0 aa ab q0 q1 q2 q3 b0 b1 b2 b3 p1 p2 p3 p4 j0 j1 : Nat) (sf : Nat → Option Nat) (old rd tr lf : Int32) (ask shw : Nat → Int32) (an pn gr : Int32) (kd pl wt : Nat → Int32) (ban bpn bgr : Int32) (bkd bpl bwt al wo fi ni : Nat → Int32) (pa la le : Int32) (ce : Nat → Int32) (sh i ln : Int32) (hs0 : ¬ sh < 0) (hs1 : ¬ nI 4 ≤ sh) (hsj : sf sh.toNatClampNeg = some j0) : MMl l yX3_cell wsX3_cell { frames := 2, cells := 0, slots := 0, locals := 43 } D cI cS (wL19 cI cS h sa p0 aa ab q0 b0 q0 q1 q2 q3 b0 b1 b2 b3 p1 p2 p3 p4 j0 j1 sf old rd tr lf ask shw an pn gr kd pl wt ban bpn bgr bkd bpl bwt al wo fi ni pa la le ce) [.ref h, .int sh, .int i, .int ln] ((fX3_cell_s la le ce i ln).1) (wL19 cI cS h sa p0 aa ab q0 b0 q0 q1 q2 q3 b0 b1 b2 b3 p1 p2 p3 p4 j0 j1 sf old rd tr ((fX3_cell_s la le ce i ln).2) ask shw an pn gr kd pl wt ban bpn bgr bkd bpl bwt al wo fi ni pa la le ce) := by
  refine kEnterM (cc := cX3_cell) (maxL := 6) (ret := (some .long)) (by decide) rfl (Nat.le_of_ble_eq_true rfl) ?_
  intro p e s m below meth c ls Qf hQ hx hb hml hr hlocks hown hts hK hP hD hS hl
  have hown : s.vm.findClass RX3 = some m.cls := hown
  have hl : lv_has ls 6 [(0, .ref h), (1, .int sh), (2, .int i), (3, .int ln)] := hl
  generalize kA (wL19 cI cS h sa p0 aa ab q0 b0 q0 q1 q2 q3 b0 b1 b2 b3 p1 p2 p3 p4 j0 j1 sf old rd tr lf ask shw an pn gr kd pl wt ban bpn bgr bkd bpl bwt al wo fi ni pa la le ce) = A at hQ hD hS
  refine lv_aload_n hx hb dX3_cell_0 rfl (lv_at hl 0 rfl) ?_
  refine lv_iconst (v := 0) hx hb dX3_cell_1 (by decide) ?_
  refine va_put (D := D) (ci := 3) (v := .int 0) (ty := tyX3 9) (C := RX3) (T := TX3) (N := 10) hx hb hts (fun _ h => List.mem_cons_of_mem _ (List.mem_append_left _ (List.mem_append_right _ h))) tyX3 tyX3_ok nmX3 hown hK.1 hP hD hS 0 rfl rfl 9 (by decide) (hts (.fieldLink RX3 45 "LieNights" "lastFault" "I") (List.mem_of_getElem? (i := 1) rfl)) (fun _ h9 => h9) rfl (tyX3_ok 9 (by decide)) rfl rfl (Nat.le_of_ble_eq_true rfl) dX3_cell_2 (fun H locs hP hD hS => ?_)
  have hP : va_P D vwCl (wL19 cI cS h sa p0 aa ab q0 b0 q0 q1 q2 q3 b0 b1 b2 b3 p1 p2 p3 p4 j0 j1 sf old rd tr 0 ask shw an pn gr kd pl wt ban bpn bgr bkd bpl bwt al wo fi ni pa la le ce) H := hP
  have hD : va_D A (wL19 cI cS h sa p0 aa ab q0 b0 q0 q1 q2 q3 b0 b1 b2 b3 p1 p2 p3 p4 j0 j1 sf old rd tr 0 ask shw an pn gr kd pl wt ban bpn bgr bkd bpl bwt al wo fi ni pa la le ce) := hD
  refine lv_aload_n hx hb dX3_cell_5 rfl (lv_at hl 0 rfl) ?_
  refine lv_iload_n hx hb dX3_cell_6 rfl (lv_at hl 1 rfl) ?_
  refine kPq (va_runV (As := [.int sh]) (rest := []) ⟨hx, hb, hml, hown, hts⟩ (c_X3_sheetOf_s l D cI cS h sa p0 aa ab q0 b0 old rd tr 0 sf sh hs0 hs1) (cwV 1 hts gX3_cell_X3_sheetOf rfl rfl rfl q_X3_sheetOf ⟨Nat.le_of_ble_eq_true rfl, Nat.le_of_ble_eq_true rfl⟩) (kPV hK hP [0, 1] rfl (va_recv hK.1 hP (ci := 3) (q0 := 0) rfl rfl) [.int sh]) rfl rfl hl.1 rfl (lv_room (Nat.le_of_ble_eq_true rfl)) dX3_cell_7 ⟨Nat.zero_le _, Nat.zero_le _⟩) ?_
  rw [hsj]
  refine lv_astore (lv' := [(4, .ref j0), (0, .ref h), (1, .int sh), (2, .int i), (3, .int ln)]) hx hb dX3_cell_10 hl (by decide) rfl (fun ls hl => ?_)
  refine lv_aload hx hb dX3_cell_12 (lv_at hl 0 rfl) ?_
  refine lv_ifnull hx hb dX3_cell_14 ?_
  refine lv_iload_n hx hb dX3_cell_17 rfl (lv_at hl 4 rfl) ?_
  refine lv_iconst (v := 2) hx hb dX3_cell_18 (by decide) ?_
  refine kPi (va_runS (As := [.int ln, .int 2]) (rest := []) ⟨hx, hb, hml, hown, hts⟩ (c_X3_within l D cI cS ln 2) (va_cwS 2 hts gX3_cell_X3_within rfl rfl rfl q_X3_within.2 ⟨Nat.le_of_ble_eq_true rfl, Nat.le_of_ble_eq_true rfl⟩) (kPS hK hP [] rfl [.int ln, .int 2]) rfl rfl hl.1 rfl (lv_room (Nat.le_of_ble_eq_true rfl)) dX3_cell_19 ⟨Nat.zero_le _, Nat.zero_le _⟩) ?_
  refine lv_if_ne (tgt := 29) hx hb dX3_cell_22 (by decide) (fun c22 => ?_) (fun c22 => ?_)
  · skip
    refine lv_aload hx hb dX3_cell_29 (lv_at hl 0 rfl) ?_
    refine lv_iload_n hx hb dX3_cell_31 rfl (lv_at hl 4 rfl) ?_
    refine kPi (va_runV (As := [.int ln]) (rest := []) ⟨hx, hb, hml, hown, hts⟩ (c_X2_faultAs l D cI cS j0 j1 la le ce ln) (cwV 1 hts gX3_cell_X2_faultAs rfl rfl rfl q_X2_faultAs ⟨Nat.le_of_ble_eq_true rfl, Nat.le_of_ble_eq_true rfl⟩) (kPV hK hP [17, 18] rfl (va_recv hK.1 hP (ci := 2) (q0 := 17) rfl rfl) [.int ln]) rfl rfl hl.1 rfl (lv_room (Nat.le_of_ble_eq_true rfl)) dX3_cell_32 ⟨Nat.zero_le _, Nat.zero_le _⟩) ?_
    refine lv_istore (lv' := [(5, .int (fX2_faultAs la ln)), (4, .ref j0), (0, .ref h), (1, .int sh), (2, .int i), (3, .int ln)]) hx hb dX3_cell_35 hl (by decide) rfl (fun ls hl => ?_)
    refine lv_iload hx hb dX3_cell_37 (lv_at hl 0 rfl) ?_
    refine lv_if_ne (tgt := 55) hx hb dX3_cell_39 (by decide) (fun c39 => ?_) (fun c39 => ?_)
    · skip
      refine lv_iload hx hb dX3_cell_55 (lv_at hl 0 rfl) ?_
      refine lv_if_eq (tgt := 70) hx hb dX3_cell_57 (by decide) (fun c57 => ?_) (fun c57 => ?_)
      · exact absurd c57 c39
      refine lv_aload_n hx hb dX3_cell_60 rfl (lv_at hl 2 rfl) ?_
      refine lv_iload hx hb dX3_cell_61 (lv_at hl 0 rfl) ?_
      refine va_put (D := D) (ci := 3) (v := .int (fX2_faultAs la ln)) (ty := tyX3 9) (C := RX3) (T := TX3) (N := 10) hx hb hts (fun _ h => List.mem_cons_of_mem _ (List.mem_append_left _ (List.mem_append_right _ h))) tyX3 tyX3_ok nmX3 hown hK.1 hP hD hS 0 rfl rfl 9 (by decide) (hts (.fieldLink RX3 45 "LieNights" "lastFault" "I") (List.mem_of_getElem? (i := 1) rfl)) (fun _ h9 => h9) rfl (tyX3_ok 9 (by decide)) rfl rfl (Nat.le_of_ble_eq_true rfl) dX3_cell_63 (fun H locs hP hD hS => ?_)
      have hP : va_P D vwCl (wL19 cI cS h sa p0 aa ab q0 b0 q0 q1 q2 q3 b0 b1 b2 b3 p1 p2 p3 p4 j0 j1 sf old rd tr (fX2_faultAs la ln) ask shw an pn gr kd pl wt ban bpn bgr bkd bpl bwt al wo fi ni pa la le ce) H := hP
      have hD : va_D A (wL19 cI cS h sa p0 aa ab q0 b0 q0 q1 q2 q3 b0 b1 b2 b3 p1 p2 p3 p4 j0 j1 sf old rd tr (fX2_faultAs la ln) ask shw an pn gr kd pl wt ban bpn bgr bkd bpl bwt al wo fi ni pa la le ce) := hD
      refine lv_ldc2 hx hb hown (hts (.constantLong RX3 135 (-9223372036854775808)) (List.mem_of_getElem? (i := 2) rfl)) dX3_cell_66 ?_
      have hR1 : (fX3_cell_s la le ce i ln) = ((-9223372036854775808), (fX2_faultAs la ln)) := (by unfold fX3_cell_s; rw [if_neg c22, if_neg c39])
      rw [hQ]
      exact W.lret (v := (-9223372036854775808)) hx hb hr (fun t ht hW => ⟨⟨_, (), rfl, (by show _ = _; rw [hR1]), (by show va_P D vwCl _ t.heap; rw [hR1, ht]; exact hP)⟩, hS.F ht⟩) hS.2.2 dX3_cell_69
    refine lv_aload hx hb dX3_cell_42 (lv_at hl 1 rfl) ?_
    refine lv_iload_n hx hb dX3_cell_44 rfl (lv_at hl 4 rfl) ?_
    refine lv_iconst (v := 1) hx hb dX3_cell_45 (by decide) ?_
    refine kPi (va_runV (As := [.int i, .int 1]) (rest := []) ⟨hx, hb, hml, hown, hts⟩ (c_X2_hasCells l D cI cS j0 j1 la le ce i 1) (cwV 2 hts gX3_cell_X2_hasCells rfl rfl rfl q_X2_hasCells ⟨Nat.le_of_ble_eq_true rfl, Nat.le_of_ble_eq_true rfl⟩) (kPV hK hP [17, 18] rfl (va_recv hK.1 hP (ci := 2) (q0 := 17) rfl rfl) [.int i, .int 1]) rfl rfl hl.1 rfl (lv_room (Nat.le_of_ble_eq_true rfl)) dX3_cell_46 ⟨Nat.zero_le _, Nat.zero_le _⟩) ?_
    refine lv_if_ne (tgt := 55) hx hb dX3_cell_49 (by decide) (fun c49 => ?_) (fun c49 => ?_)
    · skip
      refine lv_iload hx hb dX3_cell_55 (lv_at hl 0 rfl) ?_
      refine lv_if_eq (tgt := 70) hx hb dX3_cell_57 (by decide) (fun c57 => ?_) (fun c57 => ?_)
      · skip
        refine lv_aload hx hb dX3_cell_70 (lv_at hl 1 rfl) ?_
        refine lv_iload_n hx hb dX3_cell_72 rfl (lv_at hl 4 rfl) ?_
        refine kPi (va_runV (As := [.int i]) (rest := []) ⟨hx, hb, hml, hown, hts⟩ (c_X2_get l D cI cS j0 j1 la le ce i) (cwV 1 hts gX3_cell_X2_get rfl rfl rfl q_X2_get ⟨Nat.le_of_ble_eq_true rfl, Nat.le_of_ble_eq_true rfl⟩) (kPV hK hP [17, 18] rfl (va_recv hK.1 hP (ci := 2) (q0 := 17) rfl rfl) [.int i]) rfl rfl hl.1 rfl (lv_room (Nat.le_of_ble_eq_true rfl)) dX3_cell_73 ⟨Nat.zero_le _, Nat.zero_le _⟩) ?_
        refine lv_i2l (v := Int32.toInt64 (fX2_get ce i)) hx hb dX3_cell_76 rfl ?_
        have hR2 : (fX3_cell_s la le ce i ln) = ((Int32.toInt64 (fX2_get ce i)), 0) := (by unfold fX3_cell_s; rw [if_neg c22, if_pos c39, if_neg c49])
        rw [hQ]
        exact W.lret (v := (Int32.toInt64 (fX2_get ce i))) hx hb hr (fun t ht hW => ⟨⟨_, (), rfl, (by show _ = _; rw [hR2]), (by show va_P D vwCl _ t.heap; rw [hR2, ht]; exact hP)⟩, hS.F ht⟩) hS.2.2 dX3_cell_77
      exact absurd c39 c57
    refine lv_iconst (v := 3) hx hb dX3_cell_52 (by decide) ?_
    refine lv_istore (lv' := [(5, .int 3), (4, .ref j0), (0, .ref h), (1, .int sh), (2, .int i), (3, .int ln)]) hx hb dX3_cell_53 hl (by decide) rfl (fun ls hl => ?_)
    refine lv_iload hx hb dX3_cell_55 (lv_at hl 0 rfl) ?_
    refine lv_if_eq (tgt := 70) hx hb dX3_cell_57 (by decide) (fun c57 => ?_) (fun c57 => ?_)
    · exact absurd c57 (by decide)
    refine lv_aload_n hx hb dX3_cell_60 rfl (lv_at hl 2 rfl) ?_
    refine lv_iload hx hb dX3_cell_61 (lv_at hl 0 rfl) ?_
    refine va_put (D := D) (ci := 3) (v := .int 3) (ty := tyX3 9) (C := RX3) (T := TX3) (N := 10) hx hb hts (fun _ h => List.mem_cons_of_mem _ (List.mem_append_left _ (List.mem_append_right _ h))) tyX3 tyX3_ok nmX3 hown hK.1 hP hD hS 0 rfl rfl 9 (by decide) (hts (.fieldLink RX3 45 "LieNights" "lastFault" "I") (List.mem_of_getElem? (i := 1) rfl)) (fun _ h9 => h9) rfl (tyX3_ok 9 (by decide)) rfl rfl (Nat.le_of_ble_eq_true rfl) dX3_cell_63 (fun H locs hP hD hS => ?_)
    have hP : va_P D vwCl (wL19 cI cS h sa p0 aa ab q0 b0 q0 q1 q2 q3 b0 b1 b2 b3 p1 p2 p3 p4 j0 j1 sf old rd tr 3 ask shw an pn gr kd pl wt ban bpn bgr bkd bpl bwt al wo fi ni pa la le ce) H := hP
    have hD : va_D A (wL19 cI cS h sa p0 aa ab q0 b0 q0 q1 q2 q3 b0 b1 b2 b3 p1 p2 p3 p4 j0 j1 sf old rd tr 3 ask shw an pn gr kd pl wt ban bpn bgr bkd bpl bwt al wo fi ni pa la le ce) := hD
    refine lv_ldc2 hx hb hown (hts (.constantLong RX3 135 (-9223372036854775808)) (List.mem_of_getElem? (i := 2) rfl)) dX3_cell_66 ?_
    have hR3 : (fX3_cell_s la le ce i ln) = ((-9223372036854775808), 3) := (by unfold fX3_cell_s; rw [if_neg c22, if_pos c39, if_pos c49])
    rw [hQ]
    exact W.lret (v := (-9223372036854775808)) hx hb hr (fun t ht hW => ⟨⟨_, (), rfl, (by show _ = _; rw [hR3]), (by show va_P D vwCl _ t.heap; rw [hR3, ht]; exact hP)⟩, hS.F ht⟩) hS.2.2 dX3_cell_69
  refine lv_ldc2 hx hb hown (hts (.constantLong RX3 135 (-9223372036854775808)) (List.mem_of_getElem? (i := 2) rfl)) dX3_cell_25 ?_
  have hR4 : (fX3_cell_s la le ce i ln) = ((-9223372036854775808), 0) := (by unfold fX3_cell_s; rw [if_pos c22])
  rw [hQ]
  exact W.lret (v := (-9223372036854775808)) hx hb hr (fun t ht hW => ⟨⟨_, (), rfl, (by show _ = _; rw [hR4]), (by show va_P D vwCl _ t.heap; rw [hR4, ht]; exact hP)⟩, hS.F ht⟩) hS.2.2 dX3_cell_28

def fX3_copy_n1  : Int32 × Int32 := ((-1), 0)
theorem q_X3_copy : yX3_copy.cls = RX3 ∧ yX3_copy.cls ≠ "java/lang/invoke/MethodHandle" ∧ yX3_copy.cls ≠ "java/lang/invoke/VarHandle" ∧ (parseMethodDescriptor yX3_copy.desc).map (fun d => d.parameters.length) = some 5 := by decide +kernel
set_option maxHeartbeats 4000000 in
set_option maxRecDepth 100000 in
theorem c_X3_copy_n1 (l : Launch) (D : va_G) (cI cS : ClassId) (h sa p0 aa ab q0 q1 q2 q3 b0 b1 b2 b3 p1 p2 p3 p4 : Nat) (sf : Nat → Option Nat) (old rd tr lf : Int32) (ask shw : Nat → Int32) (an pn gr : Int32) (kd pl wt : Nat → Int32) (ban bpn bgr : Int32) (bkd bpl bwt al wo fi ni : Nat → Int32) (pa sh i oh j nn : Int32) (hso : sh < 0 ∨ nI 4 ≤ sh) (hoo : oh < 0 ∨ nI 4 ≤ oh) : MMi l yX3_copy wsX3_copy { frames := 3, cells := 0, slots := 0, locals := 67 } D cI cS (wL17 cI cS h sa p0 aa ab q0 b0 q0 q1 q2 q3 b0 b1 b2 b3 p1 p2 p3 p4 sf old rd tr lf ask shw an pn gr kd pl wt ban bpn bgr bkd bpl bwt al wo fi ni pa) [.ref h, .int sh, .int i, .int oh, .int j, .int nn] fX3_copy_n1.1 (wL17 cI cS h sa p0 aa ab q0 b0 q0 q1 q2 q3 b0 b1 b2 b3 p1 p2 p3 p4 sf old rd tr fX3_copy_n1.2 ask shw an pn gr kd pl wt ban bpn bgr bkd bpl bwt al wo fi ni pa) := by
  refine kEnterM (cc := cX3_copy) (maxL := 8) (ret := (some .int)) (by decide) rfl (Nat.le_of_ble_eq_true rfl) ?_
  intro p e s m below meth c ls Qf hQ hx hb hml hr hlocks hown hts hK hP hD hS hl
  have hown : s.vm.findClass RX3 = some m.cls := hown
  have hl : lv_has ls 8 [(0, .ref h), (1, .int sh), (2, .int i), (3, .int oh), (4, .int j), (5, .int nn)] := hl
  generalize kA (wL17 cI cS h sa p0 aa ab q0 b0 q0 q1 q2 q3 b0 b1 b2 b3 p1 p2 p3 p4 sf old rd tr lf ask shw an pn gr kd pl wt ban bpn bgr bkd bpl bwt al wo fi ni pa) = A at hQ hD hS
  refine lv_aload_n hx hb dX3_copy_0 rfl (lv_at hl 0 rfl) ?_
  refine lv_iconst (v := 0) hx hb dX3_copy_1 (by decide) ?_
  refine va_put (D := D) (ci := 3) (v := .int 0) (ty := tyX3 9) (C := RX3) (T := TX3) (N := 10) hx hb hts (fun _ h => List.mem_cons_of_mem _ (List.mem_append_left _ (List.mem_append_right _ h))) tyX3 tyX3_ok nmX3 hown hK.1 hP hD hS 0 rfl rfl 9 (by decide) (hts (.fieldLink RX3 45 "LieNights" "lastFault" "I") (List.mem_of_getElem? (i := 1) rfl)) (fun _ h9 => h9) rfl (tyX3_ok 9 (by decide)) rfl rfl (Nat.le_of_ble_eq_true rfl) dX3_copy_2 (fun H locs hP hD hS => ?_)
  have hP : va_P D vwCl (wL17 cI cS h sa p0 aa ab q0 b0 q0 q1 q2 q3 b0 b1 b2 b3 p1 p2 p3 p4 sf old rd tr 0 ask shw an pn gr kd pl wt ban bpn bgr bkd bpl bwt al wo fi ni pa) H := hP
  have hD : va_D A (wL17 cI cS h sa p0 aa ab q0 b0 q0 q1 q2 q3 b0 b1 b2 b3 p1 p2 p3 p4 sf old rd tr 0 ask shw an pn gr kd pl wt ban bpn bgr bkd bpl bwt al wo fi ni pa) := hD
  refine lv_aload_n hx hb dX3_copy_5 rfl (lv_at hl 0 rfl) ?_
  refine lv_iload_n hx hb dX3_copy_6 rfl (lv_at hl 1 rfl) ?_
  refine kPq (va_runV (As := [.int sh]) (rest := []) ⟨hx, hb, hml, hown, hts⟩ (c_X3_sheetOf_n l D cI cS h sa p0 aa ab q0 b0 old rd tr 0 sf sh hso) (cwV 1 hts gX3_copy_X3_sheetOf rfl rfl rfl q_X3_sheetOf ⟨Nat.le_of_ble_eq_true rfl, Nat.le_of_ble_eq_true rfl⟩) (kPV hK hP [0, 1] rfl (va_recv hK.1 hP (ci := 3) (q0 := 0) rfl rfl) [.int sh]) rfl rfl hl.1 rfl (lv_room (Nat.le_of_ble_eq_true rfl)) dX3_copy_7 ⟨Nat.zero_le _, Nat.zero_le _⟩) ?_
  refine lv_astoreN (lv' := [(6, .null), (0, .ref h), (1, .int sh), (2, .int i), (3, .int oh), (4, .int j), (5, .int nn)]) hx hb dX3_copy_10 hl (by decide) rfl (fun ls hl => ?_)
  refine lv_aload_n hx hb dX3_copy_12 rfl (lv_at hl 1 rfl) ?_
  refine lv_iload_n hx hb dX3_copy_13 rfl (lv_at hl 4 rfl) ?_
  refine kPq (va_runV (As := [.int oh]) (rest := []) ⟨hx, hb, hml, hown, hts⟩ (c_X3_sheetOf_n l D cI cS h sa p0 aa ab q0 b0 old rd tr 0 sf oh hoo) (cwV 1 hts gX3_copy_X3_sheetOf rfl rfl rfl q_X3_sheetOf ⟨Nat.le_of_ble_eq_true rfl, Nat.le_of_ble_eq_true rfl⟩) (kPV hK hP [0, 1] rfl (va_recv hK.1 hP (ci := 3) (q0 := 0) rfl rfl) [.int oh]) rfl rfl hl.1 rfl (lv_room (Nat.le_of_ble_eq_true rfl)) dX3_copy_14 ⟨Nat.zero_le _, Nat.zero_le _⟩) ?_
  refine lv_astoreN (lv' := [(7, .null), (6, .null), (0, .ref h), (1, .int sh), (2, .int i), (3, .int oh), (4, .int j), (5, .int nn)]) hx hb dX3_copy_17 hl (by decide) rfl (fun ls hl => ?_)
  refine lv_aloadN hx hb dX3_copy_19 (lv_at hl 1 rfl) ?_
  refine lv_ifnullN (tgt := 29) hx hb dX3_copy_21 (by decide) ?_
  refine lv_iconst (v := (-1)) hx hb dX3_copy_29 (by decide) ?_
  have hR1 : (fX3_copy_n1 ) = ((-1), 0) := rfl
  rw [hQ]
  exact W.iret (v := (-1)) hx hb hr (fun t ht hW => ⟨⟨_, (), rfl, (by show _ = _; rw [hR1]), (by show va_P D vwCl _ t.heap; rw [hR1, ht]; exact hP)⟩, hS.F ht⟩) hS.2.2 dX3_copy_30

def fX3_copy_n2  : Int32 × Int32 := ((-1), 0)
set_option maxHeartbeats 4000000 in
set_option maxRecDepth 100000 in
theorem c_X3_copy_n2 (l : Launch) (D : va_G) (cI cS : ClassId) (h sa p0 aa ab q0 q1 q2 q3 b0 b1 b2 b3 p1 p2 p3 p4 : Nat) (sf : Nat → Option Nat) (old rd tr lf : Int32) (ask shw : Nat → Int32) (an pn gr : Int32) (kd pl wt : Nat → Int32) (ban bpn bgr : Int32) (bkd bpl bwt al wo fi ni : Nat → Int32) (pa : Int32) (i0 : Nat) (sh i oh j nn : Int32) (hso : sh < 0 ∨ nI 4 ≤ sh) (ho0 : ¬ oh < 0) (ho1 : ¬ nI 4 ≤ oh) (hoj : sf oh.toNatClampNeg = some i0) : MMi l yX3_copy wsX3_copy { frames := 3, cells := 0, slots := 0, locals := 67 } D cI cS (wL17 cI cS h sa p0 aa ab q0 b0 q0 q1 q2 q3 b0 b1 b2 b3 p1 p2 p3 p4 sf old rd tr lf ask shw an pn gr kd pl wt ban bpn bgr bkd bpl bwt al wo fi ni pa) [.ref h, .int sh, .int i, .int oh, .int j, .int nn] fX3_copy_n2.1 (wL17 cI cS h sa p0 aa ab q0 b0 q0 q1 q2 q3 b0 b1 b2 b3 p1 p2 p3 p4 sf old rd tr fX3_copy_n2.2 ask shw an pn gr kd pl wt ban bpn bgr bkd bpl bwt al wo fi ni pa) := by
  refine kEnterM (cc := cX3_copy) (maxL := 8) (ret := (some .int)) (by decide) rfl (Nat.le_of_ble_eq_true rfl) ?_
  intro p e s m below meth c ls Qf hQ hx hb hml hr hlocks hown hts hK hP hD hS hl
  have hown : s.vm.findClass RX3 = some m.cls := hown
  have hl : lv_has ls 8 [(0, .ref h), (1, .int sh), (2, .int i), (3, .int oh), (4, .int j), (5, .int nn)] := hl
  generalize kA (wL17 cI cS h sa p0 aa ab q0 b0 q0 q1 q2 q3 b0 b1 b2 b3 p1 p2 p3 p4 sf old rd tr lf ask shw an pn gr kd pl wt ban bpn bgr bkd bpl bwt al wo fi ni pa) = A at hQ hD hS
  refine lv_aload_n hx hb dX3_copy_0 rfl (lv_at hl 0 rfl) ?_
  refine lv_iconst (v := 0) hx hb dX3_copy_1 (by decide) ?_
  refine va_put (D := D) (ci := 3) (v := .int 0) (ty := tyX3 9) (C := RX3) (T := TX3) (N := 10) hx hb hts (fun _ h => List.mem_cons_of_mem _ (List.mem_append_left _ (List.mem_append_right _ h))) tyX3 tyX3_ok nmX3 hown hK.1 hP hD hS 0 rfl rfl 9 (by decide) (hts (.fieldLink RX3 45 "LieNights" "lastFault" "I") (List.mem_of_getElem? (i := 1) rfl)) (fun _ h9 => h9) rfl (tyX3_ok 9 (by decide)) rfl rfl (Nat.le_of_ble_eq_true rfl) dX3_copy_2 (fun H locs hP hD hS => ?_)
  have hP : va_P D vwCl (wL17 cI cS h sa p0 aa ab q0 b0 q0 q1 q2 q3 b0 b1 b2 b3 p1 p2 p3 p4 sf old rd tr 0 ask shw an pn gr kd pl wt ban bpn bgr bkd bpl bwt al wo fi ni pa) H := hP
  have hD : va_D A (wL17 cI cS h sa p0 aa ab q0 b0 q0 q1 q2 q3 b0 b1 b2 b3 p1 p2 p3 p4 sf old rd tr 0 ask shw an pn gr kd pl wt ban bpn bgr bkd bpl bwt al wo fi ni pa) := hD
  refine lv_aload_n hx hb dX3_copy_5 rfl (lv_at hl 0 rfl) ?_
  refine lv_iload_n hx hb dX3_copy_6 rfl (lv_at hl 1 rfl) ?_
  refine kPq (va_runV (As := [.int sh]) (rest := []) ⟨hx, hb, hml, hown, hts⟩ (c_X3_sheetOf_n l D cI cS h sa p0 aa ab q0 b0 old rd tr 0 sf sh hso) (cwV 1 hts gX3_copy_X3_sheetOf rfl rfl rfl q_X3_sheetOf ⟨Nat.le_of_ble_eq_true rfl, Nat.le_of_ble_eq_true rfl⟩) (kPV hK hP [0, 1] rfl (va_recv hK.1 hP (ci := 3) (q0 := 0) rfl rfl) [.int sh]) rfl rfl hl.1 rfl (lv_room (Nat.le_of_ble_eq_true rfl)) dX3_copy_7 ⟨Nat.zero_le _, Nat.zero_le _⟩) ?_
  refine lv_astoreN (lv' := [(6, .null), (0, .ref h), (1, .int sh), (2, .int i), (3, .int oh), (4, .int j), (5, .int nn)]) hx hb dX3_copy_10 hl (by decide) rfl (fun ls hl => ?_)
  refine lv_aload_n hx hb dX3_copy_12 rfl (lv_at hl 1 rfl) ?_
  refine lv_iload_n hx hb dX3_copy_13 rfl (lv_at hl 4 rfl) ?_
  refine kPq (va_runV (As := [.int oh]) (rest := []) ⟨hx, hb, hml, hown, hts⟩ (c_X3_sheetOf_s l D cI cS h sa p0 aa ab q0 b0 old rd tr 0 sf oh ho0 ho1) (cwV 1 hts gX3_copy_X3_sheetOf rfl rfl rfl q_X3_sheetOf ⟨Nat.le_of_ble_eq_true rfl, Nat.le_of_ble_eq_true rfl⟩) (kPV hK hP [0, 1] rfl (va_recv hK.1 hP (ci := 3) (q0 := 0) rfl rfl) [.int oh]) rfl rfl hl.1 rfl (lv_room (Nat.le_of_ble_eq_true rfl)) dX3_copy_14 ⟨Nat.zero_le _, Nat.zero_le _⟩) ?_
  rw [hoj]
  refine lv_astore (lv' := [(7, .ref i0), (6, .null), (0, .ref h), (1, .int sh), (2, .int i), (3, .int oh), (4, .int j), (5, .int nn)]) hx hb dX3_copy_17 hl (by decide) rfl (fun ls hl => ?_)
  refine lv_aloadN hx hb dX3_copy_19 (lv_at hl 1 rfl) ?_
  refine lv_ifnullN (tgt := 29) hx hb dX3_copy_21 (by decide) ?_
  refine lv_iconst (v := (-1)) hx hb dX3_copy_29 (by decide) ?_
  have hR1 : (fX3_copy_n2 ) = ((-1), 0) := rfl
  rw [hQ]
  exact W.iret (v := (-1)) hx hb hr (fun t ht hW => ⟨⟨_, (), rfl, (by show _ = _; rw [hR1]), (by show va_P D vwCl _ t.heap; rw [hR1, ht]; exact hP)⟩, hS.F ht⟩) hS.2.2 dX3_copy_30

def fX3_copy_n3  : Int32 × Int32 := ((-1), 0)
set_option maxHeartbeats 4000000 in
set_option maxRecDepth 100000 in
theorem c_X3_copy_n3 (l : Launch) (D : va_G) (cI cS : ClassId) (h sa p0 aa ab q0 q1 q2 q3 b0 b1 b2 b3 p1 p2 p3 p4 : Nat) (sf : Nat → Option Nat) (old rd tr lf : Int32) (ask shw : Nat → Int32) (an pn gr : Int32) (kd pl wt : Nat → Int32) (ban bpn bgr : Int32) (bkd bpl bwt al wo fi ni : Nat → Int32) (pa : Int32) (j0 : Nat) (sh i oh j nn : Int32) (hs0 : ¬ sh < 0) (hs1 : ¬ nI 4 ≤ sh) (hsj : sf sh.toNatClampNeg = some j0) (hoo : oh < 0 ∨ nI 4 ≤ oh) : MMi l yX3_copy wsX3_copy { frames := 3, cells := 0, slots := 0, locals := 67 } D cI cS (wL17 cI cS h sa p0 aa ab q0 b0 q0 q1 q2 q3 b0 b1 b2 b3 p1 p2 p3 p4 sf old rd tr lf ask shw an pn gr kd pl wt ban bpn bgr bkd bpl bwt al wo fi ni pa) [.ref h, .int sh, .int i, .int oh, .int j, .int nn] fX3_copy_n3.1 (wL17 cI cS h sa p0 aa ab q0 b0 q0 q1 q2 q3 b0 b1 b2 b3 p1 p2 p3 p4 sf old rd tr fX3_copy_n3.2 ask shw an pn gr kd pl wt ban bpn bgr bkd bpl bwt al wo fi ni pa) := by
  refine kEnterM (cc := cX3_copy) (maxL := 8) (ret := (some .int)) (by decide) rfl (Nat.le_of_ble_eq_true rfl) ?_
  intro p e s m below meth c ls Qf hQ hx hb hml hr hlocks hown hts hK hP hD hS hl
  have hown : s.vm.findClass RX3 = some m.cls := hown
  have hl : lv_has ls 8 [(0, .ref h), (1, .int sh), (2, .int i), (3, .int oh), (4, .int j), (5, .int nn)] := hl
  generalize kA (wL17 cI cS h sa p0 aa ab q0 b0 q0 q1 q2 q3 b0 b1 b2 b3 p1 p2 p3 p4 sf old rd tr lf ask shw an pn gr kd pl wt ban bpn bgr bkd bpl bwt al wo fi ni pa) = A at hQ hD hS
  refine lv_aload_n hx hb dX3_copy_0 rfl (lv_at hl 0 rfl) ?_
  refine lv_iconst (v := 0) hx hb dX3_copy_1 (by decide) ?_
  refine va_put (D := D) (ci := 3) (v := .int 0) (ty := tyX3 9) (C := RX3) (T := TX3) (N := 10) hx hb hts (fun _ h => List.mem_cons_of_mem _ (List.mem_append_left _ (List.mem_append_right _ h))) tyX3 tyX3_ok nmX3 hown hK.1 hP hD hS 0 rfl rfl 9 (by decide) (hts (.fieldLink RX3 45 "LieNights" "lastFault" "I") (List.mem_of_getElem? (i := 1) rfl)) (fun _ h9 => h9) rfl (tyX3_ok 9 (by decide)) rfl rfl (Nat.le_of_ble_eq_true rfl) dX3_copy_2 (fun H locs hP hD hS => ?_)
  have hP : va_P D vwCl (wL17 cI cS h sa p0 aa ab q0 b0 q0 q1 q2 q3 b0 b1 b2 b3 p1 p2 p3 p4 sf old rd tr 0 ask shw an pn gr kd pl wt ban bpn bgr bkd bpl bwt al wo fi ni pa) H := hP
  have hD : va_D A (wL17 cI cS h sa p0 aa ab q0 b0 q0 q1 q2 q3 b0 b1 b2 b3 p1 p2 p3 p4 sf old rd tr 0 ask shw an pn gr kd pl wt ban bpn bgr bkd bpl bwt al wo fi ni pa) := hD
  refine lv_aload_n hx hb dX3_copy_5 rfl (lv_at hl 0 rfl) ?_
  refine lv_iload_n hx hb dX3_copy_6 rfl (lv_at hl 1 rfl) ?_
  refine kPq (va_runV (As := [.int sh]) (rest := []) ⟨hx, hb, hml, hown, hts⟩ (c_X3_sheetOf_s l D cI cS h sa p0 aa ab q0 b0 old rd tr 0 sf sh hs0 hs1) (cwV 1 hts gX3_copy_X3_sheetOf rfl rfl rfl q_X3_sheetOf ⟨Nat.le_of_ble_eq_true rfl, Nat.le_of_ble_eq_true rfl⟩) (kPV hK hP [0, 1] rfl (va_recv hK.1 hP (ci := 3) (q0 := 0) rfl rfl) [.int sh]) rfl rfl hl.1 rfl (lv_room (Nat.le_of_ble_eq_true rfl)) dX3_copy_7 ⟨Nat.zero_le _, Nat.zero_le _⟩) ?_
  rw [hsj]
  refine lv_astore (lv' := [(6, .ref j0), (0, .ref h), (1, .int sh), (2, .int i), (3, .int oh), (4, .int j), (5, .int nn)]) hx hb dX3_copy_10 hl (by decide) rfl (fun ls hl => ?_)
  refine lv_aload_n hx hb dX3_copy_12 rfl (lv_at hl 1 rfl) ?_
  refine lv_iload_n hx hb dX3_copy_13 rfl (lv_at hl 4 rfl) ?_
  refine kPq (va_runV (As := [.int oh]) (rest := []) ⟨hx, hb, hml, hown, hts⟩ (c_X3_sheetOf_n l D cI cS h sa p0 aa ab q0 b0 old rd tr 0 sf oh hoo) (cwV 1 hts gX3_copy_X3_sheetOf rfl rfl rfl q_X3_sheetOf ⟨Nat.le_of_ble_eq_true rfl, Nat.le_of_ble_eq_true rfl⟩) (kPV hK hP [0, 1] rfl (va_recv hK.1 hP (ci := 3) (q0 := 0) rfl rfl) [.int oh]) rfl rfl hl.1 rfl (lv_room (Nat.le_of_ble_eq_true rfl)) dX3_copy_14 ⟨Nat.zero_le _, Nat.zero_le _⟩) ?_
  refine lv_astoreN (lv' := [(7, .null), (6, .ref j0), (0, .ref h), (1, .int sh), (2, .int i), (3, .int oh), (4, .int j), (5, .int nn)]) hx hb dX3_copy_17 hl (by decide) rfl (fun ls hl => ?_)
  refine lv_aload hx hb dX3_copy_19 (lv_at hl 1 rfl) ?_
  refine lv_ifnull hx hb dX3_copy_21 ?_
  refine lv_aloadN hx hb dX3_copy_24 (lv_at hl 0 rfl) ?_
  refine lv_ifnonnullN hx hb dX3_copy_26 ?_
  refine lv_iconst (v := (-1)) hx hb dX3_copy_29 (by decide) ?_
  have hR1 : (fX3_copy_n3 ) = ((-1), 0) := rfl
  rw [hQ]
  exact W.iret (v := (-1)) hx hb hr (fun t ht hW => ⟨⟨_, (), rfl, (by show _ = _; rw [hR1]), (by show va_P D vwCl _ t.heap; rw [hR1, ht]; exact hP)⟩, hS.F ht⟩) hS.2.2 dX3_copy_30

def fX3_copy_s (la le : Int32) (ce : Nat → Int32) (la2 le2 : Int32) (ce2 : Nat → Int32) (i j nn : Int32) : Int32 × Int32 × (Nat → Int32) := (if (fX2_isNothing la) = 0 then (if (fX2_isNothing la2) = 0 then (if (fX2_isLikeLane la la2) = 0 then (((-10) - 2), 2, ce2) else (if (fX2_hasCells le i nn) = 0 then (((-10) - 3), 3, ce2) else (if (fX2_hasCells le2 j nn) = 0 then (((-10) - 3), 3, ce2) else (nn, 0, (fX2_takeCells ce2 ce nn.toNatClampNeg j i))))) else (((-10) - 1), 1, ce2)) else (((-10) - 1), 1, ce2))
set_option maxHeartbeats 4000000 in
set_option maxRecDepth 100000 in
theorem c_X3_copy_s (l : Launch) (D : va_G) (cI cS : ClassId) (h sa p0 aa ab q0 q1 q2 q3 b0 b1 b2 b3 p1 p2 p3 p4 j0 j1 i0 i1 : Nat) (sf : Nat → Option Nat) (old rd tr lf : Int32) (ask shw : Nat → Int32) (an pn gr : Int32) (kd pl wt : Nat → Int32) (ban bpn bgr : Int32) (bkd bpl bwt al wo fi ni : Nat → Int32) (pa la le : Int32) (ce : Nat → Int32) (la2 le2 : Int32) (ce2 : Nat → Int32) (Le : Nat) (sh i oh j nn : Int32) (hs0 : ¬ sh < 0) (hs1 : ¬ nI 4 ≤ sh) (hsj : sf sh.toNatClampNeg = some j0) (ho0 : ¬ oh < 0) (ho1 : ¬ nI 4 ≤ oh) (hoj : sf oh.toNatClampNeg = some i0) (hle : le = nI Le) (hLe : Le ≤ 60) : MMi l yX3_copy wsX3_copy { frames := 3, cells := 0, slots := 0, locals := 67 } D cI cS (wL21 cI cS h sa p0 aa ab q0 b0 q0 q1 q2 q3 b0 b1 b2 b3 p1 p2 p3 p4 j0 j1 i0 i1 sf old rd tr lf ask shw an pn gr kd pl wt ban bpn bgr bkd bpl bwt al wo fi ni pa la le ce la2 le2 ce2) [.ref h, .int sh, .int i, .int oh, .int j, .int nn] ((fX3_copy_s la le ce la2 le2 ce2 i j nn).1) (wL21 cI cS h sa p0 aa ab q0 b0 q0 q1 q2 q3 b0 b1 b2 b3 p1 p2 p3 p4 j0 j1 i0 i1 sf old rd tr ((fX3_copy_s la le ce la2 le2 ce2 i j nn).2.1) ask shw an pn gr kd pl wt ban bpn bgr bkd bpl bwt al wo fi ni pa la le ce la2 le2 ((fX3_copy_s la le ce la2 le2 ce2 i j nn).2.2)) := by
  refine kEnterM (cc := cX3_copy) (maxL := 8) (ret := (some .int)) (by decide) rfl (Nat.le_of_ble_eq_true rfl) ?_
  intro p e s m below meth c ls Qf hQ hx hb hml hr hlocks hown hts hK hP hD hS hl
  have hown : s.vm.findClass RX3 = some m.cls := hown
  have hl : lv_has ls 8 [(0, .ref h), (1, .int sh), (2, .int i), (3, .int oh), (4, .int j), (5, .int nn)] := hl
  generalize kA (wL21 cI cS h sa p0 aa ab q0 b0 q0 q1 q2 q3 b0 b1 b2 b3 p1 p2 p3 p4 j0 j1 i0 i1 sf old rd tr lf ask shw an pn gr kd pl wt ban bpn bgr bkd bpl bwt al wo fi ni pa la le ce la2 le2 ce2) = A at hQ hD hS
  refine lv_aload_n hx hb dX3_copy_0 rfl (lv_at hl 0 rfl) ?_
  refine lv_iconst (v := 0) hx hb dX3_copy_1 (by decide) ?_
  refine va_put (D := D) (ci := 3) (v := .int 0) (ty := tyX3 9) (C := RX3) (T := TX3) (N := 10) hx hb hts (fun _ h => List.mem_cons_of_mem _ (List.mem_append_left _ (List.mem_append_right _ h))) tyX3 tyX3_ok nmX3 hown hK.1 hP hD hS 0 rfl rfl 9 (by decide) (hts (.fieldLink RX3 45 "LieNights" "lastFault" "I") (List.mem_of_getElem? (i := 1) rfl)) (fun _ h9 => h9) rfl (tyX3_ok 9 (by decide)) rfl rfl (Nat.le_of_ble_eq_true rfl) dX3_copy_2 (fun H locs hP hD hS => ?_)
  have hP : va_P D vwCl (wL21 cI cS h sa p0 aa ab q0 b0 q0 q1 q2 q3 b0 b1 b2 b3 p1 p2 p3 p4 j0 j1 i0 i1 sf old rd tr 0 ask shw an pn gr kd pl wt ban bpn bgr bkd bpl bwt al wo fi ni pa la le ce la2 le2 ce2) H := hP
  have hD : va_D A (wL21 cI cS h sa p0 aa ab q0 b0 q0 q1 q2 q3 b0 b1 b2 b3 p1 p2 p3 p4 j0 j1 i0 i1 sf old rd tr 0 ask shw an pn gr kd pl wt ban bpn bgr bkd bpl bwt al wo fi ni pa la le ce la2 le2 ce2) := hD
  refine lv_aload_n hx hb dX3_copy_5 rfl (lv_at hl 0 rfl) ?_
  refine lv_iload_n hx hb dX3_copy_6 rfl (lv_at hl 1 rfl) ?_
  refine kPq (va_runV (As := [.int sh]) (rest := []) ⟨hx, hb, hml, hown, hts⟩ (c_X3_sheetOf_s l D cI cS h sa p0 aa ab q0 b0 old rd tr 0 sf sh hs0 hs1) (cwV 1 hts gX3_copy_X3_sheetOf rfl rfl rfl q_X3_sheetOf ⟨Nat.le_of_ble_eq_true rfl, Nat.le_of_ble_eq_true rfl⟩) (kPV hK hP [0, 1] rfl (va_recv hK.1 hP (ci := 3) (q0 := 0) rfl rfl) [.int sh]) rfl rfl hl.1 rfl (lv_room (Nat.le_of_ble_eq_true rfl)) dX3_copy_7 ⟨Nat.zero_le _, Nat.zero_le _⟩) ?_
  rw [hsj]
  refine lv_astore (lv' := [(6, .ref j0), (0, .ref h), (1, .int sh), (2, .int i), (3, .int oh), (4, .int j), (5, .int nn)]) hx hb dX3_copy_10 hl (by decide) rfl (fun ls hl => ?_)
  refine lv_aload_n hx hb dX3_copy_12 rfl (lv_at hl 1 rfl) ?_
  refine lv_iload_n hx hb dX3_copy_13 rfl (lv_at hl 4 rfl) ?_
  refine kPq (va_runV (As := [.int oh]) (rest := []) ⟨hx, hb, hml, hown, hts⟩ (c_X3_sheetOf_s l D cI cS h sa p0 aa ab q0 b0 old rd tr 0 sf oh ho0 ho1) (cwV 1 hts gX3_copy_X3_sheetOf rfl rfl rfl q_X3_sheetOf ⟨Nat.le_of_ble_eq_true rfl, Nat.le_of_ble_eq_true rfl⟩) (kPV hK hP [0, 1] rfl (va_recv hK.1 hP (ci := 3) (q0 := 0) rfl rfl) [.int oh]) rfl rfl hl.1 rfl (lv_room (Nat.le_of_ble_eq_true rfl)) dX3_copy_14 ⟨Nat.zero_le _, Nat.zero_le _⟩) ?_
  rw [hoj]
  refine lv_astore (lv' := [(7, .ref i0), (6, .ref j0), (0, .ref h), (1, .int sh), (2, .int i), (3, .int oh), (4, .int j), (5, .int nn)]) hx hb dX3_copy_17 hl (by decide) rfl (fun ls hl => ?_)
  refine lv_aload hx hb dX3_copy_19 (lv_at hl 1 rfl) ?_
  refine lv_ifnull hx hb dX3_copy_21 ?_
  refine lv_aload hx hb dX3_copy_24 (lv_at hl 0 rfl) ?_
  refine lv_ifnonnull (tgt := 31) hx hb dX3_copy_26 (by decide) ?_
  refine lv_aload hx hb dX3_copy_31 (lv_at hl 1 rfl) ?_
  refine kPi (va_runV (As := []) (rest := []) ⟨hx, hb, hml, hown, hts⟩ (c_X2_isNothing l D cI cS j0 j1 la le ce) (cwV 0 hts gX3_copy_X2_isNothing rfl rfl rfl q_X2_isNothing ⟨Nat.le_of_ble_eq_true rfl, Nat.le_of_ble_eq_true rfl⟩) (kPV hK hP [17, 18] rfl (va_recv hK.1 hP (ci := 2) (q0 := 17) rfl rfl) []) rfl rfl hl.1 rfl (lv_room (Nat.le_of_ble_eq_true rfl)) dX3_copy_33 ⟨Nat.zero_le _, Nat.zero_le _⟩) ?_
  refine lv_if_ne (tgt := 47) hx hb dX3_copy_36 (by decide) (fun c36 => ?_) (fun c36 => ?_)
  · skip
    refine lv_aload_n hx hb dX3_copy_47 rfl (lv_at hl 2 rfl) ?_
    refine lv_iconst (v := 1) hx hb dX3_copy_48 (by decide) ?_
    refine kMi (wl' := (wL21 cI cS h sa p0 aa ab q0 b0 q0 q1 q2 q3 b0 b1 b2 b3 p1 p2 p3 p4 j0 j1 i0 i1 sf old rd tr 1 ask shw an pn gr kd pl wt ban bpn bgr bkd bpl bwt al wo fi ni pa la le ce la2 le2 ce2)) (wc := (wL1 cI h sa p0 aa ab q0 b0 old rd tr 0)) (w1 := (wL1 cI h sa p0 aa ab q0 b0 old rd tr 1)) hP hD hS [0] rfl rfl rfl (va_runV (As := [.int 1]) (rest := []) ⟨hx, hb, hml, hown, hts⟩ (c_X3_faulted l D cI cS h sa p0 aa ab q0 b0 old rd tr 0 1) (cwV 1 hts gX3_copy_X3_faulted rfl rfl rfl q_X3_faulted ⟨Nat.le_of_ble_eq_true rfl, Nat.le_of_ble_eq_true rfl⟩) (kMV hK hP hD [0] rfl rfl (va_recv hK.1 hP (ci := 3) (q0 := 0) rfl rfl) [.int 1]) rfl rfl hl.1 rfl (lv_room (Nat.le_of_ble_eq_true rfl)) dX3_copy_49 ⟨Nat.zero_le _, Nat.zero_le _⟩) (fun H locs hP hD hS => ?_)
    have hR1 : (fX3_copy_s la le ce la2 le2 ce2 i j nn) = (((-10) - 1), 1, ce2) := (by unfold fX3_copy_s; rw [if_neg c36])
    rw [hQ]
    exact W.iret (v := ((-10) - 1)) hx hb hr (fun t ht hW => ⟨⟨_, (), rfl, (by show _ = _; rw [hR1]), (by show va_P D vwCl _ t.heap; rw [hR1, ht]; exact hP)⟩, hS.F ht⟩) hS.2.2 dX3_copy_52
  refine lv_aload hx hb dX3_copy_39 (lv_at hl 0 rfl) ?_
  refine kPi (va_runV (As := []) (rest := []) ⟨hx, hb, hml, hown, hts⟩ (c_X2_isNothing l D cI cS i0 i1 la2 le2 ce2) (cwV 0 hts gX3_copy_X2_isNothing rfl rfl rfl q_X2_isNothing ⟨Nat.le_of_ble_eq_true rfl, Nat.le_of_ble_eq_true rfl⟩) (kPV hK hP [19, 20] rfl (va_recv hK.1 hP (ci := 2) (q0 := 19) rfl rfl) []) rfl rfl hl.1 rfl (lv_room (Nat.le_of_ble_eq_true rfl)) dX3_copy_41 ⟨Nat.zero_le _, Nat.zero_le _⟩) ?_
  refine lv_if_eq (tgt := 53) hx hb dX3_copy_44 (by decide) (fun c44 => ?_) (fun c44 => ?_)
  · skip
    refine lv_aload hx hb dX3_copy_53 (lv_at hl 1 rfl) ?_
    refine lv_aload hx hb dX3_copy_55 (lv_at hl 0 rfl) ?_
    refine kPi (va_runV (As := [.ref i0]) (rest := []) ⟨hx, hb, hml, hown, hts⟩ (c_X2_isLikeLane l D cI cS j0 j1 la le ce i0 i1 la2 le2 ce2) (cwV 1 hts gX3_copy_X2_isLikeLane rfl rfl rfl q_X2_isLikeLane ⟨Nat.le_of_ble_eq_true rfl, Nat.le_of_ble_eq_true rfl⟩) (kPV hK hP [17, 18, 19, 20] rfl (va_recv hK.1 hP (ci := 2) (q0 := 17) rfl rfl) [.ref i0]) rfl rfl hl.1 rfl (lv_room (Nat.le_of_ble_eq_true rfl)) dX3_copy_57 ⟨Nat.zero_le _, Nat.zero_le _⟩) ?_
    refine lv_if_ne (tgt := 69) hx hb dX3_copy_60 (by decide) (fun c60 => ?_) (fun c60 => ?_)
    · skip
      refine lv_aload hx hb dX3_copy_69 (lv_at hl 1 rfl) ?_
      refine lv_iload_n hx hb dX3_copy_71 rfl (lv_at hl 4 rfl) ?_
      refine lv_iload hx hb dX3_copy_72 (lv_at hl 7 rfl) ?_
      refine kPi (va_runV (As := [.int i, .int nn]) (rest := []) ⟨hx, hb, hml, hown, hts⟩ (c_X2_hasCells l D cI cS j0 j1 la le ce i nn) (cwV 2 hts gX3_copy_X2_hasCells rfl rfl rfl q_X2_hasCells ⟨Nat.le_of_ble_eq_true rfl, Nat.le_of_ble_eq_true rfl⟩) (kPV hK hP [17, 18] rfl (va_recv hK.1 hP (ci := 2) (q0 := 17) rfl rfl) [.int i, .int nn]) rfl rfl hl.1 rfl (lv_room (Nat.le_of_ble_eq_true rfl)) dX3_copy_74 ⟨Nat.zero_le _, Nat.zero_le _⟩) ?_
      refine lv_if_eq (tgt := 92) hx hb dX3_copy_77 (by decide) (fun c77 => ?_) (fun c77 => ?_)
      · skip
        refine lv_aload_n hx hb dX3_copy_92 rfl (lv_at hl 2 rfl) ?_
        refine lv_iconst (v := 3) hx hb dX3_copy_93 (by decide) ?_
        refine kMi (wl' := (wL21 cI cS h sa p0 aa ab q0 b0 q0 q1 q2 q3 b0 b1 b2 b3 p1 p2 p3 p4 j0 j1 i0 i1 sf old rd tr 3 ask shw an pn gr kd pl wt ban bpn bgr bkd bpl bwt al wo fi ni pa la le ce la2 le2 ce2)) (wc := (wL1 cI h sa p0 aa ab q0 b0 old rd tr 0)) (w1 := (wL1 cI h sa p0 aa ab q0 b0 old rd tr 3)) hP hD hS [0] rfl rfl rfl (va_runV (As := [.int 3]) (rest := []) ⟨hx, hb, hml, hown, hts⟩ (c_X3_faulted l D cI cS h sa p0 aa ab q0 b0 old rd tr 0 3) (cwV 1 hts gX3_copy_X3_faulted rfl rfl rfl q_X3_faulted ⟨Nat.le_of_ble_eq_true rfl, Nat.le_of_ble_eq_true rfl⟩) (kMV hK hP hD [0] rfl rfl (va_recv hK.1 hP (ci := 3) (q0 := 0) rfl rfl) [.int 3]) rfl rfl hl.1 rfl (lv_room (Nat.le_of_ble_eq_true rfl)) dX3_copy_94 ⟨Nat.zero_le _, Nat.zero_le _⟩) (fun H locs hP hD hS => ?_)
        have hR2 : (fX3_copy_s la le ce la2 le2 ce2 i j nn) = (((-10) - 3), 3, ce2) := (by unfold fX3_copy_s; rw [if_pos c36, if_pos c44, if_neg c60, if_pos c77])
        rw [hQ]
        exact W.iret (v := ((-10) - 3)) hx hb hr (fun t ht hW => ⟨⟨_, (), rfl, (by show _ = _; rw [hR2]), (by show va_P D vwCl _ t.heap; rw [hR2, ht]; exact hP)⟩, hS.F ht⟩) hS.2.2 dX3_copy_97
      refine lv_aload hx hb dX3_copy_80 (lv_at hl 0 rfl) ?_
      refine lv_iload hx hb dX3_copy_82 (lv_at hl 6 rfl) ?_
      refine lv_iload hx hb dX3_copy_84 (lv_at hl 7 rfl) ?_
      refine kPi (va_runV (As := [.int j, .int nn]) (rest := []) ⟨hx, hb, hml, hown, hts⟩ (c_X2_hasCells l D cI cS i0 i1 la2 le2 ce2 j nn) (cwV 2 hts gX3_copy_X2_hasCells rfl rfl rfl q_X2_hasCells ⟨Nat.le_of_ble_eq_true rfl, Nat.le_of_ble_eq_true rfl⟩) (kPV hK hP [19, 20] rfl (va_recv hK.1 hP (ci := 2) (q0 := 19) rfl rfl) [.int j, .int nn]) rfl rfl hl.1 rfl (lv_room (Nat.le_of_ble_eq_true rfl)) dX3_copy_86 ⟨Nat.zero_le _, Nat.zero_le _⟩) ?_
      refine lv_if_ne (tgt := 98) hx hb dX3_copy_89 (by decide) (fun c89 => ?_) (fun c89 => ?_)
      · skip
        have hh := kHas hle hLe c77
        refine lv_aload hx hb dX3_copy_98 (lv_at hl 0 rfl) ?_
        refine lv_iload hx hb dX3_copy_100 (lv_at hl 6 rfl) ?_
        refine lv_aload hx hb dX3_copy_102 (lv_at hl 1 rfl) ?_
        refine lv_iload_n hx hb dX3_copy_104 rfl (lv_at hl 4 rfl) ?_
        refine lv_iload hx hb dX3_copy_105 (lv_at hl 7 rfl) ?_
        refine kMv (wl' := (wL21 cI cS h sa p0 aa ab q0 b0 q0 q1 q2 q3 b0 b1 b2 b3 p1 p2 p3 p4 j0 j1 i0 i1 sf old rd tr 0 ask shw an pn gr kd pl wt ban bpn bgr bkd bpl bwt al wo fi ni pa la le ce la2 le2 (fX2_takeCells ce2 ce nn.toNatClampNeg j i))) (wc := (wSh2 cI i0 i1 la2 le2 ce2 j0 j1 la le ce)) (w1 := (wSh2 cI i0 i1 la2 le2 (fX2_takeCells ce2 ce nn.toNatClampNeg j i) j0 j1 la le ce)) hP hD hS [19, 20, 17, 18] rfl rfl rfl (va_runV (As := [.int j, .ref j0, .int i, .int nn]) (rest := []) ⟨hx, hb, hml, hown, hts⟩ (c_X2_takeCells l D cI cS i0 i1 la2 le2 ce2 j0 j1 la le ce nn.toNatClampNeg j i nn hh.1 hh.2) (cwV 4 hts gX3_copy_X2_takeCells rfl rfl rfl q_X2_takeCells ⟨Nat.le_of_ble_eq_true rfl, Nat.le_of_ble_eq_true rfl⟩) (kMV hK hP hD [19, 20, 17, 18] rfl rfl (va_recv hK.1 hP (ci := 2) (q0 := 19) rfl rfl) [.int j, .ref j0, .int i, .int nn]) rfl rfl hl.1 rfl (lv_room (Nat.le_of_ble_eq_true rfl)) dX3_copy_107 ⟨Nat.zero_le _, Nat.zero_le _⟩) (fun H locs hP hD hS => ?_)
        refine lv_iload hx hb dX3_copy_110 (lv_at hl 7 rfl) ?_
        have hR3 : (fX3_copy_s la le ce la2 le2 ce2 i j nn) = (nn, 0, (fX2_takeCells ce2 ce nn.toNatClampNeg j i)) := (by unfold fX3_copy_s; rw [if_pos c36, if_pos c44, if_neg c60, if_neg c77, if_neg c89])
        rw [hQ]
        exact W.iret (v := nn) hx hb hr (fun t ht hW => ⟨⟨_, (), rfl, (by show _ = _; rw [hR3]), (by show va_P D vwCl _ t.heap; rw [hR3, ht]; exact hP)⟩, hS.F ht⟩) hS.2.2 dX3_copy_112
      refine lv_aload_n hx hb dX3_copy_92 rfl (lv_at hl 2 rfl) ?_
      refine lv_iconst (v := 3) hx hb dX3_copy_93 (by decide) ?_
      refine kMi (wl' := (wL21 cI cS h sa p0 aa ab q0 b0 q0 q1 q2 q3 b0 b1 b2 b3 p1 p2 p3 p4 j0 j1 i0 i1 sf old rd tr 3 ask shw an pn gr kd pl wt ban bpn bgr bkd bpl bwt al wo fi ni pa la le ce la2 le2 ce2)) (wc := (wL1 cI h sa p0 aa ab q0 b0 old rd tr 0)) (w1 := (wL1 cI h sa p0 aa ab q0 b0 old rd tr 3)) hP hD hS [0] rfl rfl rfl (va_runV (As := [.int 3]) (rest := []) ⟨hx, hb, hml, hown, hts⟩ (c_X3_faulted l D cI cS h sa p0 aa ab q0 b0 old rd tr 0 3) (cwV 1 hts gX3_copy_X3_faulted rfl rfl rfl q_X3_faulted ⟨Nat.le_of_ble_eq_true rfl, Nat.le_of_ble_eq_true rfl⟩) (kMV hK hP hD [0] rfl rfl (va_recv hK.1 hP (ci := 3) (q0 := 0) rfl rfl) [.int 3]) rfl rfl hl.1 rfl (lv_room (Nat.le_of_ble_eq_true rfl)) dX3_copy_94 ⟨Nat.zero_le _, Nat.zero_le _⟩) (fun H locs hP hD hS => ?_)
      have hR4 : (fX3_copy_s la le ce la2 le2 ce2 i j nn) = (((-10) - 3), 3, ce2) := (by unfold fX3_copy_s; rw [if_pos c36, if_pos c44, if_neg c60, if_neg c77, if_pos c89])
      rw [hQ]
      exact W.iret (v := ((-10) - 3)) hx hb hr (fun t ht hW => ⟨⟨_, (), rfl, (by show _ = _; rw [hR4]), (by show va_P D vwCl _ t.heap; rw [hR4, ht]; exact hP)⟩, hS.F ht⟩) hS.2.2 dX3_copy_97
    refine lv_aload_n hx hb dX3_copy_63 rfl (lv_at hl 2 rfl) ?_
    refine lv_iconst (v := 2) hx hb dX3_copy_64 (by decide) ?_
    refine kMi (wl' := (wL21 cI cS h sa p0 aa ab q0 b0 q0 q1 q2 q3 b0 b1 b2 b3 p1 p2 p3 p4 j0 j1 i0 i1 sf old rd tr 2 ask shw an pn gr kd pl wt ban bpn bgr bkd bpl bwt al wo fi ni pa la le ce la2 le2 ce2)) (wc := (wL1 cI h sa p0 aa ab q0 b0 old rd tr 0)) (w1 := (wL1 cI h sa p0 aa ab q0 b0 old rd tr 2)) hP hD hS [0] rfl rfl rfl (va_runV (As := [.int 2]) (rest := []) ⟨hx, hb, hml, hown, hts⟩ (c_X3_faulted l D cI cS h sa p0 aa ab q0 b0 old rd tr 0 2) (cwV 1 hts gX3_copy_X3_faulted rfl rfl rfl q_X3_faulted ⟨Nat.le_of_ble_eq_true rfl, Nat.le_of_ble_eq_true rfl⟩) (kMV hK hP hD [0] rfl rfl (va_recv hK.1 hP (ci := 3) (q0 := 0) rfl rfl) [.int 2]) rfl rfl hl.1 rfl (lv_room (Nat.le_of_ble_eq_true rfl)) dX3_copy_65 ⟨Nat.zero_le _, Nat.zero_le _⟩) (fun H locs hP hD hS => ?_)
    have hR5 : (fX3_copy_s la le ce la2 le2 ce2 i j nn) = (((-10) - 2), 2, ce2) := (by unfold fX3_copy_s; rw [if_pos c36, if_pos c44, if_pos c60])
    rw [hQ]
    exact W.iret (v := ((-10) - 2)) hx hb hr (fun t ht hW => ⟨⟨_, (), rfl, (by show _ = _; rw [hR5]), (by show va_P D vwCl _ t.heap; rw [hR5, ht]; exact hP)⟩, hS.F ht⟩) hS.2.2 dX3_copy_68
  refine lv_aload_n hx hb dX3_copy_47 rfl (lv_at hl 2 rfl) ?_
  refine lv_iconst (v := 1) hx hb dX3_copy_48 (by decide) ?_
  refine kMi (wl' := (wL21 cI cS h sa p0 aa ab q0 b0 q0 q1 q2 q3 b0 b1 b2 b3 p1 p2 p3 p4 j0 j1 i0 i1 sf old rd tr 1 ask shw an pn gr kd pl wt ban bpn bgr bkd bpl bwt al wo fi ni pa la le ce la2 le2 ce2)) (wc := (wL1 cI h sa p0 aa ab q0 b0 old rd tr 0)) (w1 := (wL1 cI h sa p0 aa ab q0 b0 old rd tr 1)) hP hD hS [0] rfl rfl rfl (va_runV (As := [.int 1]) (rest := []) ⟨hx, hb, hml, hown, hts⟩ (c_X3_faulted l D cI cS h sa p0 aa ab q0 b0 old rd tr 0 1) (cwV 1 hts gX3_copy_X3_faulted rfl rfl rfl q_X3_faulted ⟨Nat.le_of_ble_eq_true rfl, Nat.le_of_ble_eq_true rfl⟩) (kMV hK hP hD [0] rfl rfl (va_recv hK.1 hP (ci := 3) (q0 := 0) rfl rfl) [.int 1]) rfl rfl hl.1 rfl (lv_room (Nat.le_of_ble_eq_true rfl)) dX3_copy_49 ⟨Nat.zero_le _, Nat.zero_le _⟩) (fun H locs hP hD hS => ?_)
  have hR6 : (fX3_copy_s la le ce la2 le2 ce2 i j nn) = (((-10) - 1), 1, ce2) := (by unfold fX3_copy_s; rw [if_pos c36, if_neg c44])
  rw [hQ]
  exact W.iret (v := ((-10) - 1)) hx hb hr (fun t ht hW => ⟨⟨_, (), rfl, (by show _ = _; rw [hR6]), (by show va_P D vwCl _ t.heap; rw [hR6, ht]; exact hP)⟩, hS.F ht⟩) hS.2.2 dX3_copy_52

def fX3_copy_a (la le : Int32) (ce : Nat → Int32) (i j nn : Int32) : Int32 × Int32 × (Nat → Int32) := (if (fX2_isNothing la) = 0 then (if (fX2_isLikeLane_a la) = 0 then (((-10) - 2), 2, ce) else (if (fX2_hasCells le i nn) = 0 then (((-10) - 3), 3, ce) else (if (fX2_hasCells le j nn) = 0 then (((-10) - 3), 3, ce) else (nn, 0, (fX2_takeCells_a ce nn.toNatClampNeg j i))))) else (((-10) - 1), 1, ce))
set_option maxHeartbeats 4000000 in
set_option maxRecDepth 100000 in
theorem c_X3_copy_a (l : Launch) (D : va_G) (cI cS : ClassId) (h sa p0 aa ab q0 q1 q2 q3 b0 b1 b2 b3 p1 p2 p3 p4 j0 j1 : Nat) (sf : Nat → Option Nat) (old rd tr lf : Int32) (ask shw : Nat → Int32) (an pn gr : Int32) (kd pl wt : Nat → Int32) (ban bpn bgr : Int32) (bkd bpl bwt al wo fi ni : Nat → Int32) (pa la le : Int32) (ce : Nat → Int32) (Le : Nat) (sh i oh j nn : Int32) (hs0 : ¬ sh < 0) (hs1 : ¬ nI 4 ≤ sh) (hsj : sf sh.toNatClampNeg = some j0) (ho0 : ¬ oh < 0) (ho1 : ¬ nI 4 ≤ oh) (hoj : sf oh.toNatClampNeg = some j0) (hle : le = nI Le) (hLe : Le ≤ 60) : MMi l yX3_copy wsX3_copy { frames := 3, cells := 0, slots := 0, locals := 67 } D cI cS (wL19 cI cS h sa p0 aa ab q0 b0 q0 q1 q2 q3 b0 b1 b2 b3 p1 p2 p3 p4 j0 j1 sf old rd tr lf ask shw an pn gr kd pl wt ban bpn bgr bkd bpl bwt al wo fi ni pa la le ce) [.ref h, .int sh, .int i, .int oh, .int j, .int nn] ((fX3_copy_a la le ce i j nn).1) (wL19 cI cS h sa p0 aa ab q0 b0 q0 q1 q2 q3 b0 b1 b2 b3 p1 p2 p3 p4 j0 j1 sf old rd tr ((fX3_copy_a la le ce i j nn).2.1) ask shw an pn gr kd pl wt ban bpn bgr bkd bpl bwt al wo fi ni pa la le ((fX3_copy_a la le ce i j nn).2.2)) := by
  refine kEnterM (cc := cX3_copy) (maxL := 8) (ret := (some .int)) (by decide) rfl (Nat.le_of_ble_eq_true rfl) ?_
  intro p e s m below meth c ls Qf hQ hx hb hml hr hlocks hown hts hK hP hD hS hl
  have hown : s.vm.findClass RX3 = some m.cls := hown
  have hl : lv_has ls 8 [(0, .ref h), (1, .int sh), (2, .int i), (3, .int oh), (4, .int j), (5, .int nn)] := hl
  generalize kA (wL19 cI cS h sa p0 aa ab q0 b0 q0 q1 q2 q3 b0 b1 b2 b3 p1 p2 p3 p4 j0 j1 sf old rd tr lf ask shw an pn gr kd pl wt ban bpn bgr bkd bpl bwt al wo fi ni pa la le ce) = A at hQ hD hS
  refine lv_aload_n hx hb dX3_copy_0 rfl (lv_at hl 0 rfl) ?_
  refine lv_iconst (v := 0) hx hb dX3_copy_1 (by decide) ?_
  refine va_put (D := D) (ci := 3) (v := .int 0) (ty := tyX3 9) (C := RX3) (T := TX3) (N := 10) hx hb hts (fun _ h => List.mem_cons_of_mem _ (List.mem_append_left _ (List.mem_append_right _ h))) tyX3 tyX3_ok nmX3 hown hK.1 hP hD hS 0 rfl rfl 9 (by decide) (hts (.fieldLink RX3 45 "LieNights" "lastFault" "I") (List.mem_of_getElem? (i := 1) rfl)) (fun _ h9 => h9) rfl (tyX3_ok 9 (by decide)) rfl rfl (Nat.le_of_ble_eq_true rfl) dX3_copy_2 (fun H locs hP hD hS => ?_)
  have hP : va_P D vwCl (wL19 cI cS h sa p0 aa ab q0 b0 q0 q1 q2 q3 b0 b1 b2 b3 p1 p2 p3 p4 j0 j1 sf old rd tr 0 ask shw an pn gr kd pl wt ban bpn bgr bkd bpl bwt al wo fi ni pa la le ce) H := hP
  have hD : va_D A (wL19 cI cS h sa p0 aa ab q0 b0 q0 q1 q2 q3 b0 b1 b2 b3 p1 p2 p3 p4 j0 j1 sf old rd tr 0 ask shw an pn gr kd pl wt ban bpn bgr bkd bpl bwt al wo fi ni pa la le ce) := hD
  refine lv_aload_n hx hb dX3_copy_5 rfl (lv_at hl 0 rfl) ?_
  refine lv_iload_n hx hb dX3_copy_6 rfl (lv_at hl 1 rfl) ?_
  refine kPq (va_runV (As := [.int sh]) (rest := []) ⟨hx, hb, hml, hown, hts⟩ (c_X3_sheetOf_s l D cI cS h sa p0 aa ab q0 b0 old rd tr 0 sf sh hs0 hs1) (cwV 1 hts gX3_copy_X3_sheetOf rfl rfl rfl q_X3_sheetOf ⟨Nat.le_of_ble_eq_true rfl, Nat.le_of_ble_eq_true rfl⟩) (kPV hK hP [0, 1] rfl (va_recv hK.1 hP (ci := 3) (q0 := 0) rfl rfl) [.int sh]) rfl rfl hl.1 rfl (lv_room (Nat.le_of_ble_eq_true rfl)) dX3_copy_7 ⟨Nat.zero_le _, Nat.zero_le _⟩) ?_
  rw [hsj]
  refine lv_astore (lv' := [(6, .ref j0), (0, .ref h), (1, .int sh), (2, .int i), (3, .int oh), (4, .int j), (5, .int nn)]) hx hb dX3_copy_10 hl (by decide) rfl (fun ls hl => ?_)
  refine lv_aload_n hx hb dX3_copy_12 rfl (lv_at hl 1 rfl) ?_
  refine lv_iload_n hx hb dX3_copy_13 rfl (lv_at hl 4 rfl) ?_
  refine kPq (va_runV (As := [.int oh]) (rest := []) ⟨hx, hb, hml, hown, hts⟩ (c_X3_sheetOf_s l D cI cS h sa p0 aa ab q0 b0 old rd tr 0 sf oh ho0 ho1) (cwV 1 hts gX3_copy_X3_sheetOf rfl rfl rfl q_X3_sheetOf ⟨Nat.le_of_ble_eq_true rfl, Nat.le_of_ble_eq_true rfl⟩) (kPV hK hP [0, 1] rfl (va_recv hK.1 hP (ci := 3) (q0 := 0) rfl rfl) [.int oh]) rfl rfl hl.1 rfl (lv_room (Nat.le_of_ble_eq_true rfl)) dX3_copy_14 ⟨Nat.zero_le _, Nat.zero_le _⟩) ?_
  rw [hoj]
  refine lv_astore (lv' := [(7, .ref j0), (6, .ref j0), (0, .ref h), (1, .int sh), (2, .int i), (3, .int oh), (4, .int j), (5, .int nn)]) hx hb dX3_copy_17 hl (by decide) rfl (fun ls hl => ?_)
  refine lv_aload hx hb dX3_copy_19 (lv_at hl 1 rfl) ?_
  refine lv_ifnull hx hb dX3_copy_21 ?_
  refine lv_aload hx hb dX3_copy_24 (lv_at hl 0 rfl) ?_
  refine lv_ifnonnull (tgt := 31) hx hb dX3_copy_26 (by decide) ?_
  refine lv_aload hx hb dX3_copy_31 (lv_at hl 1 rfl) ?_
  refine kPi (va_runV (As := []) (rest := []) ⟨hx, hb, hml, hown, hts⟩ (c_X2_isNothing l D cI cS j0 j1 la le ce) (cwV 0 hts gX3_copy_X2_isNothing rfl rfl rfl q_X2_isNothing ⟨Nat.le_of_ble_eq_true rfl, Nat.le_of_ble_eq_true rfl⟩) (kPV hK hP [17, 18] rfl (va_recv hK.1 hP (ci := 2) (q0 := 17) rfl rfl) []) rfl rfl hl.1 rfl (lv_room (Nat.le_of_ble_eq_true rfl)) dX3_copy_33 ⟨Nat.zero_le _, Nat.zero_le _⟩) ?_
  refine lv_if_ne (tgt := 47) hx hb dX3_copy_36 (by decide) (fun c36 => ?_) (fun c36 => ?_)
  · skip
    refine lv_aload_n hx hb dX3_copy_47 rfl (lv_at hl 2 rfl) ?_
    refine lv_iconst (v := 1) hx hb dX3_copy_48 (by decide) ?_
    refine kMi (wl' := (wL19 cI cS h sa p0 aa ab q0 b0 q0 q1 q2 q3 b0 b1 b2 b3 p1 p2 p3 p4 j0 j1 sf old rd tr 1 ask shw an pn gr kd pl wt ban bpn bgr bkd bpl bwt al wo fi ni pa la le ce)) (wc := (wL1 cI h sa p0 aa ab q0 b0 old rd tr 0)) (w1 := (wL1 cI h sa p0 aa ab q0 b0 old rd tr 1)) hP hD hS [0] rfl rfl rfl (va_runV (As := [.int 1]) (rest := []) ⟨hx, hb, hml, hown, hts⟩ (c_X3_faulted l D cI cS h sa p0 aa ab q0 b0 old rd tr 0 1) (cwV 1 hts gX3_copy_X3_faulted rfl rfl rfl q_X3_faulted ⟨Nat.le_of_ble_eq_true rfl, Nat.le_of_ble_eq_true rfl⟩) (kMV hK hP hD [0] rfl rfl (va_recv hK.1 hP (ci := 3) (q0 := 0) rfl rfl) [.int 1]) rfl rfl hl.1 rfl (lv_room (Nat.le_of_ble_eq_true rfl)) dX3_copy_49 ⟨Nat.zero_le _, Nat.zero_le _⟩) (fun H locs hP hD hS => ?_)
    have hR1 : (fX3_copy_a la le ce i j nn) = (((-10) - 1), 1, ce) := (by unfold fX3_copy_a; rw [if_neg c36])
    rw [hQ]
    exact W.iret (v := ((-10) - 1)) hx hb hr (fun t ht hW => ⟨⟨_, (), rfl, (by show _ = _; rw [hR1]), (by show va_P D vwCl _ t.heap; rw [hR1, ht]; exact hP)⟩, hS.F ht⟩) hS.2.2 dX3_copy_52
  refine lv_aload hx hb dX3_copy_39 (lv_at hl 0 rfl) ?_
  refine kPi (va_runV (As := []) (rest := []) ⟨hx, hb, hml, hown, hts⟩ (c_X2_isNothing l D cI cS j0 j1 la le ce) (cwV 0 hts gX3_copy_X2_isNothing rfl rfl rfl q_X2_isNothing ⟨Nat.le_of_ble_eq_true rfl, Nat.le_of_ble_eq_true rfl⟩) (kPV hK hP [17, 18] rfl (va_recv hK.1 hP (ci := 2) (q0 := 17) rfl rfl) []) rfl rfl hl.1 rfl (lv_room (Nat.le_of_ble_eq_true rfl)) dX3_copy_41 ⟨Nat.zero_le _, Nat.zero_le _⟩) ?_
  refine lv_if_eq (tgt := 53) hx hb dX3_copy_44 (by decide) (fun c44 => ?_) (fun c44 => ?_)
  · skip
    refine lv_aload hx hb dX3_copy_53 (lv_at hl 1 rfl) ?_
    refine lv_aload hx hb dX3_copy_55 (lv_at hl 0 rfl) ?_
    refine kPi (va_runV (As := [.ref j0]) (rest := []) ⟨hx, hb, hml, hown, hts⟩ (c_X2_isLikeLane_a l D cI cS j0 j1 la le ce) (cwV 1 hts gX3_copy_X2_isLikeLane rfl rfl rfl q_X2_isLikeLane ⟨Nat.le_of_ble_eq_true rfl, Nat.le_of_ble_eq_true rfl⟩) (kPV hK hP [17, 18] rfl (va_recv hK.1 hP (ci := 2) (q0 := 17) rfl rfl) [.ref j0]) rfl rfl hl.1 rfl (lv_room (Nat.le_of_ble_eq_true rfl)) dX3_copy_57 ⟨Nat.zero_le _, Nat.zero_le _⟩) ?_
    refine lv_if_ne (tgt := 69) hx hb dX3_copy_60 (by decide) (fun c60 => ?_) (fun c60 => ?_)
    · skip
      refine lv_aload hx hb dX3_copy_69 (lv_at hl 1 rfl) ?_
      refine lv_iload_n hx hb dX3_copy_71 rfl (lv_at hl 4 rfl) ?_
      refine lv_iload hx hb dX3_copy_72 (lv_at hl 7 rfl) ?_
      refine kPi (va_runV (As := [.int i, .int nn]) (rest := []) ⟨hx, hb, hml, hown, hts⟩ (c_X2_hasCells l D cI cS j0 j1 la le ce i nn) (cwV 2 hts gX3_copy_X2_hasCells rfl rfl rfl q_X2_hasCells ⟨Nat.le_of_ble_eq_true rfl, Nat.le_of_ble_eq_true rfl⟩) (kPV hK hP [17, 18] rfl (va_recv hK.1 hP (ci := 2) (q0 := 17) rfl rfl) [.int i, .int nn]) rfl rfl hl.1 rfl (lv_room (Nat.le_of_ble_eq_true rfl)) dX3_copy_74 ⟨Nat.zero_le _, Nat.zero_le _⟩) ?_
      refine lv_if_eq (tgt := 92) hx hb dX3_copy_77 (by decide) (fun c77 => ?_) (fun c77 => ?_)
      · skip
        refine lv_aload_n hx hb dX3_copy_92 rfl (lv_at hl 2 rfl) ?_
        refine lv_iconst (v := 3) hx hb dX3_copy_93 (by decide) ?_
        refine kMi (wl' := (wL19 cI cS h sa p0 aa ab q0 b0 q0 q1 q2 q3 b0 b1 b2 b3 p1 p2 p3 p4 j0 j1 sf old rd tr 3 ask shw an pn gr kd pl wt ban bpn bgr bkd bpl bwt al wo fi ni pa la le ce)) (wc := (wL1 cI h sa p0 aa ab q0 b0 old rd tr 0)) (w1 := (wL1 cI h sa p0 aa ab q0 b0 old rd tr 3)) hP hD hS [0] rfl rfl rfl (va_runV (As := [.int 3]) (rest := []) ⟨hx, hb, hml, hown, hts⟩ (c_X3_faulted l D cI cS h sa p0 aa ab q0 b0 old rd tr 0 3) (cwV 1 hts gX3_copy_X3_faulted rfl rfl rfl q_X3_faulted ⟨Nat.le_of_ble_eq_true rfl, Nat.le_of_ble_eq_true rfl⟩) (kMV hK hP hD [0] rfl rfl (va_recv hK.1 hP (ci := 3) (q0 := 0) rfl rfl) [.int 3]) rfl rfl hl.1 rfl (lv_room (Nat.le_of_ble_eq_true rfl)) dX3_copy_94 ⟨Nat.zero_le _, Nat.zero_le _⟩) (fun H locs hP hD hS => ?_)
        have hR2 : (fX3_copy_a la le ce i j nn) = (((-10) - 3), 3, ce) := (by unfold fX3_copy_a; rw [if_pos c36, if_neg c60, if_pos c77])
        rw [hQ]
        exact W.iret (v := ((-10) - 3)) hx hb hr (fun t ht hW => ⟨⟨_, (), rfl, (by show _ = _; rw [hR2]), (by show va_P D vwCl _ t.heap; rw [hR2, ht]; exact hP)⟩, hS.F ht⟩) hS.2.2 dX3_copy_97
      refine lv_aload hx hb dX3_copy_80 (lv_at hl 0 rfl) ?_
      refine lv_iload hx hb dX3_copy_82 (lv_at hl 6 rfl) ?_
      refine lv_iload hx hb dX3_copy_84 (lv_at hl 7 rfl) ?_
      refine kPi (va_runV (As := [.int j, .int nn]) (rest := []) ⟨hx, hb, hml, hown, hts⟩ (c_X2_hasCells l D cI cS j0 j1 la le ce j nn) (cwV 2 hts gX3_copy_X2_hasCells rfl rfl rfl q_X2_hasCells ⟨Nat.le_of_ble_eq_true rfl, Nat.le_of_ble_eq_true rfl⟩) (kPV hK hP [17, 18] rfl (va_recv hK.1 hP (ci := 2) (q0 := 17) rfl rfl) [.int j, .int nn]) rfl rfl hl.1 rfl (lv_room (Nat.le_of_ble_eq_true rfl)) dX3_copy_86 ⟨Nat.zero_le _, Nat.zero_le _⟩) ?_
      refine lv_if_ne (tgt := 98) hx hb dX3_copy_89 (by decide) (fun c89 => ?_) (fun c89 => ?_)
      · skip
        have hh := kHas hle hLe c77
        refine lv_aload hx hb dX3_copy_98 (lv_at hl 0 rfl) ?_
        refine lv_iload hx hb dX3_copy_100 (lv_at hl 6 rfl) ?_
        refine lv_aload hx hb dX3_copy_102 (lv_at hl 1 rfl) ?_
        refine lv_iload_n hx hb dX3_copy_104 rfl (lv_at hl 4 rfl) ?_
        refine lv_iload hx hb dX3_copy_105 (lv_at hl 7 rfl) ?_
        refine kMv (wl' := (wL19 cI cS h sa p0 aa ab q0 b0 q0 q1 q2 q3 b0 b1 b2 b3 p1 p2 p3 p4 j0 j1 sf old rd tr 0 ask shw an pn gr kd pl wt ban bpn bgr bkd bpl bwt al wo fi ni pa la le (fX2_takeCells_a ce nn.toNatClampNeg j i))) (wc := (wSh cI j0 j1 la le ce)) (w1 := (wSh cI j0 j1 la le (fX2_takeCells_a ce nn.toNatClampNeg j i))) hP hD hS [17, 18] rfl rfl rfl (va_runV (As := [.int j, .ref j0, .int i, .int nn]) (rest := []) ⟨hx, hb, hml, hown, hts⟩ (c_X2_takeCells_a l D cI cS j0 j1 la le ce nn.toNatClampNeg j i nn hh.1 hh.2) (cwV 4 hts gX3_copy_X2_takeCells rfl rfl rfl q_X2_takeCells ⟨Nat.le_of_ble_eq_true rfl, Nat.le_of_ble_eq_true rfl⟩) (kMV hK hP hD [17, 18] rfl rfl (va_recv hK.1 hP (ci := 2) (q0 := 17) rfl rfl) [.int j, .ref j0, .int i, .int nn]) rfl rfl hl.1 rfl (lv_room (Nat.le_of_ble_eq_true rfl)) dX3_copy_107 ⟨Nat.zero_le _, Nat.zero_le _⟩) (fun H locs hP hD hS => ?_)
        refine lv_iload hx hb dX3_copy_110 (lv_at hl 7 rfl) ?_
        have hR3 : (fX3_copy_a la le ce i j nn) = (nn, 0, (fX2_takeCells_a ce nn.toNatClampNeg j i)) := (by unfold fX3_copy_a; rw [if_pos c36, if_neg c60, if_neg c77, if_neg c89])
        rw [hQ]
        exact W.iret (v := nn) hx hb hr (fun t ht hW => ⟨⟨_, (), rfl, (by show _ = _; rw [hR3]), (by show va_P D vwCl _ t.heap; rw [hR3, ht]; exact hP)⟩, hS.F ht⟩) hS.2.2 dX3_copy_112
      refine lv_aload_n hx hb dX3_copy_92 rfl (lv_at hl 2 rfl) ?_
      refine lv_iconst (v := 3) hx hb dX3_copy_93 (by decide) ?_
      refine kMi (wl' := (wL19 cI cS h sa p0 aa ab q0 b0 q0 q1 q2 q3 b0 b1 b2 b3 p1 p2 p3 p4 j0 j1 sf old rd tr 3 ask shw an pn gr kd pl wt ban bpn bgr bkd bpl bwt al wo fi ni pa la le ce)) (wc := (wL1 cI h sa p0 aa ab q0 b0 old rd tr 0)) (w1 := (wL1 cI h sa p0 aa ab q0 b0 old rd tr 3)) hP hD hS [0] rfl rfl rfl (va_runV (As := [.int 3]) (rest := []) ⟨hx, hb, hml, hown, hts⟩ (c_X3_faulted l D cI cS h sa p0 aa ab q0 b0 old rd tr 0 3) (cwV 1 hts gX3_copy_X3_faulted rfl rfl rfl q_X3_faulted ⟨Nat.le_of_ble_eq_true rfl, Nat.le_of_ble_eq_true rfl⟩) (kMV hK hP hD [0] rfl rfl (va_recv hK.1 hP (ci := 3) (q0 := 0) rfl rfl) [.int 3]) rfl rfl hl.1 rfl (lv_room (Nat.le_of_ble_eq_true rfl)) dX3_copy_94 ⟨Nat.zero_le _, Nat.zero_le _⟩) (fun H locs hP hD hS => ?_)
      have hR4 : (fX3_copy_a la le ce i j nn) = (((-10) - 3), 3, ce) := (by unfold fX3_copy_a; rw [if_pos c36, if_neg c60, if_neg c77, if_pos c89])
      rw [hQ]
      exact W.iret (v := ((-10) - 3)) hx hb hr (fun t ht hW => ⟨⟨_, (), rfl, (by show _ = _; rw [hR4]), (by show va_P D vwCl _ t.heap; rw [hR4, ht]; exact hP)⟩, hS.F ht⟩) hS.2.2 dX3_copy_97
    refine lv_aload_n hx hb dX3_copy_63 rfl (lv_at hl 2 rfl) ?_
    refine lv_iconst (v := 2) hx hb dX3_copy_64 (by decide) ?_
    refine kMi (wl' := (wL19 cI cS h sa p0 aa ab q0 b0 q0 q1 q2 q3 b0 b1 b2 b3 p1 p2 p3 p4 j0 j1 sf old rd tr 2 ask shw an pn gr kd pl wt ban bpn bgr bkd bpl bwt al wo fi ni pa la le ce)) (wc := (wL1 cI h sa p0 aa ab q0 b0 old rd tr 0)) (w1 := (wL1 cI h sa p0 aa ab q0 b0 old rd tr 2)) hP hD hS [0] rfl rfl rfl (va_runV (As := [.int 2]) (rest := []) ⟨hx, hb, hml, hown, hts⟩ (c_X3_faulted l D cI cS h sa p0 aa ab q0 b0 old rd tr 0 2) (cwV 1 hts gX3_copy_X3_faulted rfl rfl rfl q_X3_faulted ⟨Nat.le_of_ble_eq_true rfl, Nat.le_of_ble_eq_true rfl⟩) (kMV hK hP hD [0] rfl rfl (va_recv hK.1 hP (ci := 3) (q0 := 0) rfl rfl) [.int 2]) rfl rfl hl.1 rfl (lv_room (Nat.le_of_ble_eq_true rfl)) dX3_copy_65 ⟨Nat.zero_le _, Nat.zero_le _⟩) (fun H locs hP hD hS => ?_)
    have hR5 : (fX3_copy_a la le ce i j nn) = (((-10) - 2), 2, ce) := (by unfold fX3_copy_a; rw [if_pos c36, if_pos c60])
    rw [hQ]
    exact W.iret (v := ((-10) - 2)) hx hb hr (fun t ht hW => ⟨⟨_, (), rfl, (by show _ = _; rw [hR5]), (by show va_P D vwCl _ t.heap; rw [hR5, ht]; exact hP)⟩, hS.F ht⟩) hS.2.2 dX3_copy_68
  exact absurd c36 c44
