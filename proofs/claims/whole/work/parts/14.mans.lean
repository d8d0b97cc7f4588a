def fX4_readAnswer (ax ra : Int32) (ces xk xp : Nat → Int32) (en : Int32) : Int32 × Int32 × Int32 × (Nat → Int32) × (Nat → Int32) := (if (en : Int32) ≤ ax then (0, ax, ra, (upd xk ra.toNatClampNeg (-9)), xp) else (if (ces ax.toNatClampNeg) = 112 then (if ((upd xp ra.toNatClampNeg ((fX4_digit (ax + 1) ces en 0).1)) ((ra + 1) - 1).toNatClampNeg) = (-9) then (0, (fX4_digit (ax + 1) ces en 0).2, (ra + 1), (upd xk ra.toNatClampNeg 0), (upd xp ra.toNatClampNeg ((fX4_digit (ax + 1) ces en 0).1))) else (1, (fX4_digit (ax + 1) ces en 0).2, (ra + 1), (upd xk ra.toNatClampNeg 0), (upd xp ra.toNatClampNeg ((fX4_digit (ax + 1) ces en 0).1)))) else (if (ces ax.toNatClampNeg) = 115 then (if ((upd xp ra.toNatClampNeg ((fX4_digit (ax + 1) ces en 0).1)) ((ra + 1) - 1).toNatClampNeg) = (-9) then (0, (fX4_digit (ax + 1) ces en 0).2, (ra + 1), (upd xk ra.toNatClampNeg 1), (upd xp ra.toNatClampNeg ((fX4_digit (ax + 1) ces en 0).1))) else (1, (fX4_digit (ax + 1) ces en 0).2, (ra + 1), (upd xk ra.toNatClampNeg 1), (upd xp ra.toNatClampNeg ((fX4_digit (ax + 1) ces en 0).1)))) else (if (ces ax.toNatClampNeg) = 118 then (if ((upd xp ra.toNatClampNeg ((fX4_digit (ax + 1) ces en 0).1)) ((ra + 1) - 1).toNatClampNeg) = (-9) then (0, (fX4_digit (ax + 1) ces en 0).2, (ra + 1), (upd xk ra.toNatClampNeg 2), (upd xp ra.toNatClampNeg ((fX4_digit (ax + 1) ces en 0).1))) else (1, (fX4_digit (ax + 1) ces en 0).2, (ra + 1), (upd xk ra.toNatClampNeg 2), (upd xp ra.toNatClampNeg ((fX4_digit (ax + 1) ces en 0).1)))) else (0, ax, ra, (upd xk ra.toNatClampNeg (-9)), xp)))))
theorem q_X4_readAnswer : yX4_readAnswer.cls = RX4 ∧ yX4_readAnswer.cls ≠ "java/lang/invoke/MethodHandle" ∧ yX4_readAnswer.cls ≠ "java/lang/invoke/VarHandle" ∧ (parseMethodDescriptor yX4_readAnswer.desc).map (fun d => d.parameters.length) = some 1 := by decide +kernel
set_option maxHeartbeats 4000000 in
set_option maxRecDepth 100000 in
theorem c_X4_readAnswer (l : Launch) (D : va_G) (cI cS : ClassId) (h m1 m2 m3 m4 m5 m6 m7 m8 m9 m10 m11 m12 m13 : Nat) (lf tr an pn gr ax ra rp rg rd : Int32) (so sl ces kd pl wt xk xp xw wo su ask shw : Nat → Int32) (Ra : Nat) (en : Int32) (hax : ¬ ax < 0) (hE : en ≤ 240) (hra : ra = nI Ra) (hRa : Ra < 6) : MMi l yX4_readAnswer wsX4_readAnswer { frames := 2, cells := 0, slots := 0, locals := 44 } D cI cS (wMo cI h m1 m2 m3 m4 m5 m6 m7 m8 m9 m10 m11 m12 m13 lf tr an pn gr ax ra rp rg rd so sl ces kd pl wt xk xp xw wo su ask shw) [.ref h, .int en] ((fX4_readAnswer ax ra ces xk xp en).1) (wMo cI h m1 m2 m3 m4 m5 m6 m7 m8 m9 m10 m11 m12 m13 lf tr an pn gr ((fX4_readAnswer ax ra ces xk xp en).2.1) ((fX4_readAnswer ax ra ces xk xp en).2.2.1) rp rg rd so sl ces kd pl wt ((fX4_readAnswer ax ra ces xk xp en).2.2.2.1) ((fX4_readAnswer ax ra ces xk xp en).2.2.2.2) xw wo su ask shw) := by
  refine kEnterM (cc := cX4_readAnswer) (maxL := 3) (ret := (some .boolean)) (by decide) rfl (Nat.le_of_ble_eq_true rfl) ?_
  intro p e s m below meth c ls Qf hQ hx hb hml hr hlocks hown hts hK hP hD hS hl
  have hown : s.vm.findClass RX4 = some m.cls := hown
  have hl : lv_has ls 3 [(0, .ref h), (1, .int en)] := hl
  generalize kA (wMo cI h m1 m2 m3 m4 m5 m6 m7 m8 m9 m10 m11 m12 m13 lf tr an pn gr ax ra rp rg rd so sl ces kd pl wt xk xp xw wo su ask shw) = A at hQ hD hS
  refine lv_aload_n hx hb dX4_readAnswer_0 rfl (lv_at hl 0 rfl) ?_
  refine va_get (D := D) (ci := 4) (v := .int ax) (C := RX4) (T := TX4) (N := 23) hx hb hts (fun _ h => List.mem_cons_of_mem _ (List.mem_append_right _ h)) hown hK.1 hP 0 rfl rfl 11 (by decide) (hts (.fieldLink RX4 62 "LieNightsModel" "at" "I") (List.mem_of_getElem? (i := 1) rfl)) (fun _ h9 => h9) rfl dX4_readAnswer_1 ?_
  refine lv_iload_n hx hb dX4_readAnswer_4 rfl (lv_at hl 1 rfl) ?_
  refine lv_icmp_ge (tgt := 20) hx hb dX4_readAnswer_5 (by decide) (fun c5 => ?_) (fun c5 => ?_)
  · skip
    refine lv_iconst (v := 0) hx hb dX4_readAnswer_20 (by decide) ?_
    refine lv_istore_n (lv' := [(2, .int 0), (0, .ref h), (1, .int en)]) hx hb dX4_readAnswer_21 rfl hl (by decide) rfl (fun ls hl => ?_)
    refine lv_aload_n hx hb dX4_readAnswer_22 rfl (lv_at hl 1 rfl) ?_
    refine va_get (D := D) (ci := 4) (v := .ref m7) (C := RX4) (T := TX4) (N := 23) hx hb hts (fun _ h => List.mem_cons_of_mem _ (List.mem_append_right _ h)) hown hK.1 hP 0 rfl rfl 15 (by decide) (hts (.fieldLink RX4 28 "LieNightsModel" "readKind" "[I") (List.mem_of_getElem? (i := 3) rfl)) (fun _ h9 => h9) rfl dX4_readAnswer_23 ?_
    refine lv_aload_n hx hb dX4_readAnswer_26 rfl (lv_at hl 1 rfl) ?_
    refine va_get (D := D) (ci := 4) (v := .int ra) (C := RX4) (T := TX4) (N := 23) hx hb hts (fun _ h => List.mem_cons_of_mem _ (List.mem_append_right _ h)) hown hK.1 hP 0 rfl rfl 12 (by decide) (hts (.fieldLink RX4 83 "LieNightsModel" "readAnswers" "I") (List.mem_of_getElem? (i := 4) rfl)) (fun _ h9 => h9) rfl dX4_readAnswer_27 ?_
    refine lv_iload_n hx hb dX4_readAnswer_30 rfl (lv_at hl 0 rfl) ?_
    refine lv_bipush (v := 112) hx hb dX4_readAnswer_31 (by decide) ?_
    refine lv_icmp_ne (tgt := 40) hx hb dX4_readAnswer_33 (by decide) (fun c33 => ?_) (fun c33 => ?_)
    · skip
      refine lv_iload_n hx hb dX4_readAnswer_40 rfl (lv_at hl 0 rfl) ?_
      refine lv_bipush (v := 115) hx hb dX4_readAnswer_41 (by decide) ?_
      refine lv_icmp_ne (tgt := 50) hx hb dX4_readAnswer_43 (by decide) (fun c43 => ?_) (fun c43 => ?_)
      · skip
        refine lv_iload_n hx hb dX4_readAnswer_50 rfl (lv_at hl 0 rfl) ?_
        refine lv_bipush (v := 118) hx hb dX4_readAnswer_51 (by decide) ?_
        refine lv_icmp_ne (tgt := 60) hx hb dX4_readAnswer_53 (by decide) (fun c53 => ?_) (fun c53 => ?_)
        · skip
          refine lv_bipush (v := (-9)) hx hb dX4_readAnswer_60 (by decide) ?_
          refine va_iast hx hb hK.1 hP hD hS 7 0 rfl rfl (mNat hra hRa (by decide)) dX4_readAnswer_62 (fun H locs hP hD hS => ?_)
          have hP : va_P D vwCl (wMo cI h m1 m2 m3 m4 m5 m6 m7 m8 m9 m10 m11 m12 m13 lf tr an pn gr ax ra rp rg rd so sl ces kd pl wt (upd xk ra.toNatClampNeg (-9)) xp xw wo su ask shw) H := hP
          have hD : va_D A (wMo cI h m1 m2 m3 m4 m5 m6 m7 m8 m9 m10 m11 m12 m13 lf tr an pn gr ax ra rp rg rd so sl ces kd pl wt (upd xk ra.toNatClampNeg (-9)) xp xw wo su ask shw) := hD
          refine lv_aload_n hx hb dX4_readAnswer_63 rfl (lv_at hl 1 rfl) ?_
          refine va_get (D := D) (ci := 4) (v := .ref m7) (C := RX4) (T := TX4) (N := 23) hx hb hts (fun _ h => List.mem_cons_of_mem _ (List.mem_append_right _ h)) hown hK.1 hP 0 rfl rfl 15 (by decide) (hts (.fieldLink RX4 28 "LieNightsModel" "readKind" "[I") (List.mem_of_getElem? (i := 3) rfl)) (fun _ h9 => h9) rfl dX4_readAnswer_64 ?_
          refine lv_aload_n hx hb dX4_readAnswer_67 rfl (lv_at hl 1 rfl) ?_
          refine va_get (D := D) (ci := 4) (v := .int ra) (C := RX4) (T := TX4) (N := 23) hx hb hts (fun _ h => List.mem_cons_of_mem _ (List.mem_append_right _ h)) hown hK.1 hP 0 rfl rfl 12 (by decide) (hts (.fieldLink RX4 83 "LieNightsModel" "readAnswers" "I") (List.mem_of_getElem? (i := 4) rfl)) (fun _ h9 => h9) rfl dX4_readAnswer_68 ?_
          refine va_iald hx hb hK.1 hP 7 0 rfl rfl (mNat hra hRa (by decide)) dX4_readAnswer_71 ?_
          rw [show (upd xk ra.toNatClampNeg (-9)) ra.toNatClampNeg = (-9) from pk_us]
          refine lv_bipush (v := (-9)) hx hb dX4_readAnswer_72 (by decide) ?_
          refine lv_icmp_ne (tgt := 79) hx hb dX4_readAnswer_74 (by decide) (fun c74 => ?_) (fun c74 => ?_)
          · exact (c74 (by decide)).elim
          refine lv_iconst (v := 0) hx hb dX4_readAnswer_77 (by decide) ?_
          have hR1 : (fX4_readAnswer ax ra ces xk xp en) = (0, ax, ra, (upd xk ra.toNatClampNeg (-9)), xp) := (by unfold fX4_readAnswer; rw [if_pos c5])
          rw [hQ]
          exact W.zret (v := 0) (ty := .boolean) hx hb hr rfl (fun t ht hW => ⟨⟨_, (), rfl, (by show _ = _; rw [hR1]), (by show va_P D vwCl _ t.heap; rw [hR1, ht]; exact hP)⟩, hS.F ht⟩) hS.2.2 dX4_readAnswer_78
        exact absurd c53 (by decide)
      exact absurd c43 (by decide)
    exact absurd c33 (by decide)
  refine lv_aload_n hx hb dX4_readAnswer_8 rfl (lv_at hl 0 rfl) ?_
  refine va_get (D := D) (ci := 4) (v := .ref m3) (C := RX4) (T := TX4) (N := 23) hx hb hts (fun _ h => List.mem_cons_of_mem _ (List.mem_append_right _ h)) hown hK.1 hP 0 rfl rfl 4 (by decide) (hts (.fieldLink RX4 16 "LieNightsModel" "cells" "[I") (List.mem_of_getElem? (i := 2) rfl)) (fun _ h9 => h9) rfl dX4_readAnswer_9 ?_
  refine lv_aload_n hx hb dX4_readAnswer_12 rfl (lv_at hl 0 rfl) ?_
  refine va_get (D := D) (ci := 4) (v := .int ax) (C := RX4) (T := TX4) (N := 23) hx hb hts (fun _ h => List.mem_cons_of_mem _ (List.mem_append_right _ h)) hown hK.1 hP 0 rfl rfl 11 (by decide) (hts (.fieldLink RX4 62 "LieNightsModel" "at" "I") (List.mem_of_getElem? (i := 1) rfl)) (fun _ h9 => h9) rfl dX4_readAnswer_13 ?_
  refine va_iald hx hb hK.1 hP 3 0 rfl rfl (mIx hax hE c5) dX4_readAnswer_16 ?_
  refine lv_goto (tgt := 21) hx hb dX4_readAnswer_17 (by decide) ?_
  refine lv_istore_n (lv' := [(2, .int (ces ax.toNatClampNeg)), (0, .ref h), (1, .int en)]) hx hb dX4_readAnswer_21 rfl hl (by decide) rfl (fun ls hl => ?_)
  refine lv_aload_n hx hb dX4_readAnswer_22 rfl (lv_at hl 1 rfl) ?_
  refine va_get (D := D) (ci := 4) (v := .ref m7) (C := RX4) (T := TX4) (N := 23) hx hb hts (fun _ h => List.mem_cons_of_mem _ (List.mem_append_right _ h)) hown hK.1 hP 0 rfl rfl 15 (by decide) (hts (.fieldLink RX4 28 "LieNightsModel" "readKind" "[I") (List.mem_of_getElem? (i := 3) rfl)) (fun _ h9 => h9) rfl dX4_readAnswer_23 ?_
  refine lv_aload_n hx hb dX4_readAnswer_26 rfl (lv_at hl 1 rfl) ?_
  refine va_get (D := D) (ci := 4) (v := .int ra) (C := RX4) (T := TX4) (N := 23) hx hb hts (fun _ h => List.mem_cons_of_mem _ (List.mem_append_right _ h)) hown hK.1 hP 0 rfl rfl 12 (by decide) (hts (.fieldLink RX4 83 "LieNightsModel" "readAnswers" "I") (List.mem_of_getElem? (i := 4) rfl)) (fun _ h9 => h9) rfl dX4_readAnswer_27 ?_
  refine lv_iload_n hx hb dX4_readAnswer_30 rfl (lv_at hl 0 rfl) ?_
  refine lv_bipush (v := 112) hx hb dX4_readAnswer_31 (by decide) ?_
  refine lv_icmp_ne (tgt := 40) hx hb dX4_readAnswer_33 (by decide) (fun c33 => ?_) (fun c33 => ?_)
  · skip
    refine lv_iload_n hx hb dX4_readAnswer_40 rfl (lv_at hl 0 rfl) ?_
    refine lv_bipush (v := 115) hx hb dX4_readAnswer_41 (by decide) ?_
    refine lv_icmp_ne (tgt := 50) hx hb dX4_readAnswer_43 (by decide) (fun c43 => ?_) (fun c43 => ?_)
    · skip
      refine lv_iload_n hx hb dX4_readAnswer_50 rfl (lv_at hl 0 rfl) ?_
      refine lv_bipush (v := 118) hx hb dX4_readAnswer_51 (by decide) ?_
      refine lv_icmp_ne (tgt := 60) hx hb dX4_readAnswer_53 (by decide) (fun c53 => ?_) (fun c53 => ?_)
      · skip
        refine lv_bipush (v := (-9)) hx hb dX4_readAnswer_60 (by decide) ?_
        refine va_iast hx hb hK.1 hP hD hS 7 0 rfl rfl (mNat hra hRa (by decide)) dX4_readAnswer_62 (fun H locs hP hD hS => ?_)
        have hP : va_P D vwCl (wMo cI h m1 m2 m3 m4 m5 m6 m7 m8 m9 m10 m11 m12 m13 lf tr an pn gr ax ra rp rg rd so sl ces kd pl wt (upd xk ra.toNatClampNeg (-9)) xp xw wo su ask shw) H := hP
        have hD : va_D A (wMo cI h m1 m2 m3 m4 m5 m6 m7 m8 m9 m10 m11 m12 m13 lf tr an pn gr ax ra rp rg rd so sl ces kd pl wt (upd xk ra.toNatClampNeg (-9)) xp xw wo su ask shw) := hD
        refine lv_aload_n hx hb dX4_readAnswer_63 rfl (lv_at hl 1 rfl) ?_
        refine va_get (D := D) (ci := 4) (v := .ref m7) (C := RX4) (T := TX4) (N := 23) hx hb hts (fun _ h => List.mem_cons_of_mem _ (List.mem_append_right _ h)) hown hK.1 hP 0 rfl rfl 15 (by decide) (hts (.fieldLink RX4 28 "LieNightsModel" "readKind" "[I") (List.mem_of_getElem? (i := 3) rfl)) (fun _ h9 => h9) rfl dX4_readAnswer_64 ?_
        refine lv_aload_n hx hb dX4_readAnswer_67 rfl (lv_at hl 1 rfl) ?_
        refine va_get (D := D) (ci := 4) (v := .int ra) (C := RX4) (T := TX4) (N := 23) hx hb hts (fun _ h => List.mem_cons_of_mem _ (List.mem_append_right _ h)) hown hK.1 hP 0 rfl rfl 12 (by decide) (hts (.fieldLink RX4 83 "LieNightsModel" "readAnswers" "I") (List.mem_of_getElem? (i := 4) rfl)) (fun _ h9 => h9) rfl dX4_readAnswer_68 ?_
        refine va_iald hx hb hK.1 hP 7 0 rfl rfl (mNat hra hRa (by decide)) dX4_readAnswer_71 ?_
        rw [show (upd xk ra.toNatClampNeg (-9)) ra.toNatClampNeg = (-9) from pk_us]
        refine lv_bipush (v := (-9)) hx hb dX4_readAnswer_72 (by decide) ?_
        refine lv_icmp_ne (tgt := 79) hx hb dX4_readAnswer_74 (by decide) (fun c74 => ?_) (fun c74 => ?_)
        · exact (c74 (by decide)).elim
        refine lv_iconst (v := 0) hx hb dX4_readAnswer_77 (by decide) ?_
        have hR2 : (fX4_readAnswer ax ra ces xk xp en) = (0, ax, ra, (upd xk ra.toNatClampNeg (-9)), xp) := (by unfold fX4_readAnswer; rw [if_neg c5, if_neg c33, if_neg c43, if_neg c53])
        rw [hQ]
        exact W.zret (v := 0) (ty := .boolean) hx hb hr rfl (fun t ht hW => ⟨⟨_, (), rfl, (by show _ = _; rw [hR2]), (by show va_P D vwCl _ t.heap; rw [hR2, ht]; exact hP)⟩, hS.F ht⟩) hS.2.2 dX4_readAnswer_78
      refine lv_iconst (v := 2) hx hb dX4_readAnswer_56 (by decide) ?_
      refine lv_goto (tgt := 62) hx hb dX4_readAnswer_57 (by decide) ?_
      refine va_iast hx hb hK.1 hP hD hS 7 0 rfl rfl (mNat hra hRa (by decide)) dX4_readAnswer_62 (fun H locs hP hD hS => ?_)
      have hP : va_P D vwCl (wMo cI h m1 m2 m3 m4 m5 m6 m7 m8 m9 m10 m11 m12 m13 lf tr an pn gr ax ra rp rg rd so sl ces kd pl wt (upd xk ra.toNatClampNeg 2) xp xw wo su ask shw) H := hP
      have hD : va_D A (wMo cI h m1 m2 m3 m4 m5 m6 m7 m8 m9 m10 m11 m12 m13 lf tr an pn gr ax ra rp rg rd so sl ces kd pl wt (upd xk ra.toNatClampNeg 2) xp xw wo su ask shw) := hD
      refine lv_aload_n hx hb dX4_readAnswer_63 rfl (lv_at hl 1 rfl) ?_
      refine va_get (D := D) (ci := 4) (v := .ref m7) (C := RX4) (T := TX4) (N := 23) hx hb hts (fun _ h => List.mem_cons_of_mem _ (List.mem_append_right _ h)) hown hK.1 hP 0 rfl rfl 15 (by decide) (hts (.fieldLink RX4 28 "LieNightsModel" "readKind" "[I") (List.mem_of_getElem? (i := 3) rfl)) (fun _ h9 => h9) rfl dX4_readAnswer_64 ?_
      refine lv_aload_n hx hb dX4_readAnswer_67 rfl (lv_at hl 1 rfl) ?_
      refine va_get (D := D) (ci := 4) (v := .int ra) (C := RX4) (T := TX4) (N := 23) hx hb hts (fun _ h => List.mem_cons_of_mem _ (List.mem_append_right _ h)) hown hK.1 hP 0 rfl rfl 12 (by decide) (hts (.fieldLink RX4 83 "LieNightsModel" "readAnswers" "I") (List.mem_of_getElem? (i := 4) rfl)) (fun _ h9 => h9) rfl dX4_readAnswer_68 ?_
      refine va_iald hx hb hK.1 hP 7 0 rfl rfl (mNat hra hRa (by decide)) dX4_readAnswer_71 ?_
      rw [show (upd xk ra.toNatClampNeg 2) ra.toNatClampNeg = 2 from pk_us]
      refine lv_bipush (v := (-9)) hx hb dX4_readAnswer_72 (by decide) ?_
      refine lv_icmp_ne (tgt := 79) hx hb dX4_readAnswer_74 (by decide) (fun c74 => ?_) (fun c74 => ?_)
      · skip
        refine lv_aload_n hx hb dX4_readAnswer_79 rfl (lv_at hl 1 rfl) ?_
        refine lv_dup hx hb dX4_readAnswer_80 rfl ?_
        refine va_get (D := D) (ci := 4) (v := .int ax) (C := RX4) (T := TX4) (N := 23) hx hb hts (fun _ h => List.mem_cons_of_mem _ (List.mem_append_right _ h)) hown hK.1 hP 0 rfl rfl 11 (by decide) (hts (.fieldLink RX4 62 "LieNightsModel" "at" "I") (List.mem_of_getElem? (i := 1) rfl)) (fun _ h9 => h9) rfl dX4_readAnswer_81 ?_
        refine lv_iconst (v := 1) hx hb dX4_readAnswer_84 (by decide) ?_
        refine lv_iadd hx hb dX4_readAnswer_85 ?_
        refine va_put (D := D) (ci := 4) (v := .int (ax + 1)) (ty := tyX4 11) (C := RX4) (T := TX4) (N := 23) hx hb hts (fun _ h => List.mem_cons_of_mem _ (List.mem_append_right _ h)) tyX4 tyX4_ok nmX4 hown hK.1 hP hD hS 0 rfl rfl 11 (by decide) (hts (.fieldLink RX4 62 "LieNightsModel" "at" "I") (List.mem_of_getElem? (i := 1) rfl)) (fun _ h9 => h9) rfl (tyX4_ok 11 (by decide)) rfl rfl (Nat.le_of_ble_eq_true rfl) dX4_readAnswer_86 (fun H locs hP hD hS => ?_)
        have hP : va_P D vwCl (wMo cI h m1 m2 m3 m4 m5 m6 m7 m8 m9 m10 m11 m12 m13 lf tr an pn gr (ax + 1) ra rp rg rd so sl ces kd pl wt (upd xk ra.toNatClampNeg 2) xp xw wo su ask shw) H := hP
        have hD : va_D A (wMo cI h m1 m2 m3 m4 m5 m6 m7 m8 m9 m10 m11 m12 m13 lf tr an pn gr (ax + 1) ra rp rg rd so sl ces kd pl wt (upd xk ra.toNatClampNeg 2) xp xw wo su ask shw) := hD
        obtain ⟨zax86, hzax86⟩ : ∃ z : Int32, z = (ax + 1) := ⟨_, rfl⟩
        rw [← hzax86] at hP hD
        refine lv_aload_n hx hb dX4_readAnswer_89 rfl (lv_at hl 1 rfl) ?_
        refine va_get (D := D) (ci := 4) (v := .ref m8) (C := RX4) (T := TX4) (N := 23) hx hb hts (fun _ h => List.mem_cons_of_mem _ (List.mem_append_right _ h)) hown hK.1 hP 0 rfl rfl 16 (by decide) (hts (.fieldLink RX4 31 "LieNightsModel" "readPlace" "[I") (List.mem_of_getElem? (i := 5) rfl)) (fun _ h9 => h9) rfl dX4_readAnswer_90 ?_
        refine lv_aload_n hx hb dX4_readAnswer_93 rfl (lv_at hl 1 rfl) ?_
        refine va_get (D := D) (ci := 4) (v := .int ra) (C := RX4) (T := TX4) (N := 23) hx hb hts (fun _ h => List.mem_cons_of_mem _ (List.mem_append_right _ h)) hown hK.1 hP 0 rfl rfl 12 (by decide) (hts (.fieldLink RX4 83 "LieNightsModel" "readAnswers" "I") (List.mem_of_getElem? (i := 4) rfl)) (fun _ h9 => h9) rfl dX4_readAnswer_94 ?_
        refine lv_aload_n hx hb dX4_readAnswer_97 rfl (lv_at hl 1 rfl) ?_
        refine lv_iload_n hx hb dX4_readAnswer_98 rfl (lv_at hl 2 rfl) ?_
        refine lv_iconst (v := 0) hx hb dX4_readAnswer_99 (by decide) ?_
        refine kMi (wl' := (wMo cI h m1 m2 m3 m4 m5 m6 m7 m8 m9 m10 m11 m12 m13 lf tr an pn gr ((fX4_digit zax86 ces en 0).2) ra rp rg rd so sl ces kd pl wt (upd xk ra.toNatClampNeg 2) xp xw wo su ask shw)) (wc := (wMo cI h m1 m2 m3 m4 m5 m6 m7 m8 m9 m10 m11 m12 m13 lf tr an pn gr zax86 ra rp rg rd so sl ces kd pl wt (upd xk ra.toNatClampNeg 2) xp xw wo su ask shw)) (w1 := (wMo cI h m1 m2 m3 m4 m5 m6 m7 m8 m9 m10 m11 m12 m13 lf tr an pn gr ((fX4_digit zax86 ces en 0).2) ra rp rg rd so sl ces kd pl wt (upd xk ra.toNatClampNeg 2) xp xw wo su ask shw)) hP hD hS [0, 1, 2, 3, 4, 5, 6, 7, 8, 9, 10, 11, 12, 13] rfl rfl rfl (va_runV (As := [.int en, .int 0]) (rest := [.int ra, .ref m8]) ⟨hx, hb, hml, hown, hts⟩ (c_X4_digit l D cI cS h m1 m2 m3 m4 m5 m6 m7 m8 m9 m10 m11 m12 m13 lf tr an pn gr zax86 ra rp rg rd so sl ces kd pl wt (upd xk ra.toNatClampNeg 2) xp xw wo su ask shw en 0 (by rw [hzax86]; exact mInc hax hE c5) hE) (cwV 2 hts gX4_readAnswer_X4_digit rfl rfl rfl q_X4_digit ⟨Nat.le_of_ble_eq_true rfl, Nat.le_of_ble_eq_true rfl⟩) (kMV hK hP hD [0, 1, 2, 3, 4, 5, 6, 7, 8, 9, 10, 11, 12, 13] rfl rfl (va_recv hK.1 hP (ci := 4) (q0 := 0) rfl rfl) [.int en, .int 0]) rfl rfl hl.1 rfl (lv_room (Nat.le_of_ble_eq_true rfl)) dX4_readAnswer_100 ⟨Nat.zero_le _, Nat.zero_le _⟩) (fun H locs hP hD hS => ?_)
        refine va_iast hx hb hK.1 hP hD hS 8 0 rfl rfl (mNat hra hRa (by decide)) dX4_readAnswer_103 (fun H locs hP hD hS => ?_)
        have hP : va_P D vwCl (wMo cI h m1 m2 m3 m4 m5 m6 m7 m8 m9 m10 m11 m12 m13 lf tr an pn gr ((fX4_digit zax86 ces en 0).2) ra rp rg rd so sl ces kd pl wt (upd xk ra.toNatClampNeg 2) (upd xp ra.toNatClampNeg ((fX4_digit zax86 ces en 0).1)) xw wo su ask shw) H := hP
        have hD : va_D A (wMo cI h m1 m2 m3 m4 m5 m6 m7 m8 m9 m10 m11 m12 m13 lf tr an pn gr ((fX4_digit zax86 ces en 0).2) ra rp rg rd so sl ces kd pl wt (upd xk ra.toNatClampNeg 2) (upd xp ra.toNatClampNeg ((fX4_digit zax86 ces en 0).1)) xw wo su ask shw) := hD
        refine lv_aload_n hx hb dX4_readAnswer_104 rfl (lv_at hl 1 rfl) ?_
        refine lv_dup hx hb dX4_readAnswer_105 rfl ?_
        refine va_get (D := D) (ci := 4) (v := .int ra) (C := RX4) (T := TX4) (N := 23) hx hb hts (fun _ h => List.mem_cons_of_mem _ (List.mem_append_right _ h)) hown hK.1 hP 0 rfl rfl 12 (by decide) (hts (.fieldLink RX4 83 "LieNightsModel" "readAnswers" "I") (List.mem_of_getElem? (i := 4) rfl)) (fun _ h9 => h9) rfl dX4_readAnswer_106 ?_
        refine lv_iconst (v := 1) hx hb dX4_readAnswer_109 (by decide) ?_
        refine lv_iadd hx hb dX4_readAnswer_110 ?_
        refine va_put (D := D) (ci := 4) (v := .int (ra + 1)) (ty := tyX4 12) (C := RX4) (T := TX4) (N := 23) hx hb hts (fun _ h => List.mem_cons_of_mem _ (List.mem_append_right _ h)) tyX4 tyX4_ok nmX4 hown hK.1 hP hD hS 0 rfl rfl 12 (by decide) (hts (.fieldLink RX4 83 "LieNightsModel" "readAnswers" "I") (List.mem_of_getElem? (i := 4) rfl)) (fun _ h9 => h9) rfl (tyX4_ok 12 (by decide)) rfl rfl (Nat.le_of_ble_eq_true rfl) dX4_readAnswer_111 (fun H locs hP hD hS => ?_)
        have hP : va_P D vwCl (wMo cI h m1 m2 m3 m4 m5 m6 m7 m8 m9 m10 m11 m12 m13 lf tr an pn gr ((fX4_digit zax86 ces en 0).2) (ra + 1) rp rg rd so sl ces kd pl wt (upd xk ra.toNatClampNeg 2) (upd xp ra.toNatClampNeg ((fX4_digit zax86 ces en 0).1)) xw wo su ask shw) H := hP
        have hD : va_D A (wMo cI h m1 m2 m3 m4 m5 m6 m7 m8 m9 m10 m11 m12 m13 lf tr an pn gr ((fX4_digit zax86 ces en 0).2) (ra + 1) rp rg rd so sl ces kd pl wt (upd xk ra.toNatClampNeg 2) (upd xp ra.toNatClampNeg ((fX4_digit zax86 ces en 0).1)) xw wo su ask shw) := hD
        obtain ⟨zra111, hzra111⟩ : ∃ z : Int32, z = (ra + 1) := ⟨_, rfl⟩
        rw [← hzra111] at hP hD
        refine lv_aload_n hx hb dX4_readAnswer_114 rfl (lv_at hl 1 rfl) ?_
        refine va_get (D := D) (ci := 4) (v := .ref m8) (C := RX4) (T := TX4) (N := 23) hx hb hts (fun _ h => List.mem_cons_of_mem _ (List.mem_append_right _ h)) hown hK.1 hP 0 rfl rfl 16 (by decide) (hts (.fieldLink RX4 31 "LieNightsModel" "readPlace" "[I") (List.mem_of_getElem? (i := 5) rfl)) (fun _ h9 => h9) rfl dX4_readAnswer_115 ?_
        refine lv_aload_n hx hb dX4_readAnswer_118 rfl (lv_at hl 1 rfl) ?_
        refine va_get (D := D) (ci := 4) (v := .int zra111) (C := RX4) (T := TX4) (N := 23) hx hb hts (fun _ h => List.mem_cons_of_mem _ (List.mem_append_right _ h)) hown hK.1 hP 0 rfl rfl 12 (by decide) (hts (.fieldLink RX4 83 "LieNightsModel" "readAnswers" "I") (List.mem_of_getElem? (i := 4) rfl)) (fun _ h9 => h9) rfl dX4_readAnswer_119 ?_
        refine lv_iconst (v := 1) hx hb dX4_readAnswer_122 (by decide) ?_
        refine lv_isub hx hb dX4_readAnswer_123 ?_
        refine va_iald hx hb hK.1 hP 8 0 rfl rfl (by subst_vars; exact mNat1 rfl hRa (by decide)) dX4_readAnswer_124 ?_
        refine lv_bipush (v := (-9)) hx hb dX4_readAnswer_125 (by decide) ?_
        refine lv_icmp_eq (tgt := 134) hx hb dX4_readAnswer_127 (by decide) (fun c127 => ?_) (fun c127 => ?_)
        · skip
          refine lv_iconst (v := 0) hx hb dX4_readAnswer_134 (by decide) ?_
          subst hzra111
          subst hzax86
          have hR3 : (fX4_readAnswer ax ra ces xk xp en) = (0, (fX4_digit (ax + 1) ces en 0).2, (ra + 1), (upd xk ra.toNatClampNeg 2), (upd xp ra.toNatClampNeg ((fX4_digit (ax + 1) ces en 0).1))) := (by unfold fX4_readAnswer; rw [if_neg c5, if_neg c33, if_neg c43, if_pos c53, if_pos c127])
          rw [hQ]
          exact W.zret (v := 0) (ty := .boolean) hx hb hr rfl (fun t ht hW => ⟨⟨_, (), rfl, (by show _ = _; rw [hR3]), (by show va_P D vwCl _ t.heap; rw [hR3, ht]; exact hP)⟩, hS.F ht⟩) hS.2.2 dX4_readAnswer_135
        refine lv_iconst (v := 1) hx hb dX4_readAnswer_130 (by decide) ?_
        refine lv_goto (tgt := 135) hx hb dX4_readAnswer_131 (by decide) ?_
        subst hzra111
        subst hzax86
        have hR4 : (fX4_readAnswer ax ra ces xk xp en) = (1, (fX4_digit (ax + 1) ces en 0).2, (ra + 1), (upd xk ra.toNatClampNeg 2), (upd xp ra.toNatClampNeg ((fX4_digit (ax + 1) ces en 0).1))) := (by unfold fX4_readAnswer; rw [if_neg c5, if_neg c33, if_neg c43, if_pos c53, if_neg c127])
        rw [hQ]
        exact W.zret (v := 1) (ty := .boolean) hx hb hr rfl (fun t ht hW => ⟨⟨_, (), rfl, (by show _ = _; rw [hR4]), (by show va_P D vwCl _ t.heap; rw [hR4, ht]; exact hP)⟩, hS.F ht⟩) hS.2.2 dX4_readAnswer_135
      exact absurd c74 (by decide)
    refine lv_iconst (v := 1) hx hb dX4_readAnswer_46 (by decide) ?_
    refine lv_goto (tgt := 62) hx hb dX4_readAnswer_47 (by decide) ?_
    refine va_iast hx hb hK.1 hP hD hS 7 0 rfl rfl (mNat hra hRa (by decide)) dX4_readAnswer_62 (fun H locs hP hD hS => ?_)
    have hP : va_P D vwCl (wMo cI h m1 m2 m3 m4 m5 m6 m7 m8 m9 m10 m11 m12 m13 lf tr an pn gr ax ra rp rg rd so sl ces kd pl wt (upd xk ra.toNatClampNeg 1) xp xw wo su ask shw) H := hP
    have hD : va_D A (wMo cI h m1 m2 m3 m4 m5 m6 m7 m8 m9 m10 m11 m12 m13 lf tr an pn gr ax ra rp rg rd so sl ces kd pl wt (upd xk ra.toNatClampNeg 1) xp xw wo su ask shw) := hD
    refine lv_aload_n hx hb dX4_readAnswer_63 rfl (lv_at hl 1 rfl) ?_
    refine va_get (D := D) (ci := 4) (v := .ref m7) (C := RX4) (T := TX4) (N := 23) hx hb hts (fun _ h => List.mem_cons_of_mem _ (List.mem_append_right _ h)) hown hK.1 hP 0 rfl rfl 15 (by decide) (hts (.fieldLink RX4 28 "LieNightsModel" "readKind" "[I") (List.mem_of_getElem? (i := 3) rfl)) (fun _ h9 => h9) rfl dX4_readAnswer_64 ?_
    refine lv_aload_n hx hb dX4_readAnswer_67 rfl (lv_at hl 1 rfl) ?_
    refine va_get (D := D) (ci := 4) (v := .int ra) (C := RX4) (T := TX4) (N := 23) hx hb hts (fun _ h => List.mem_cons_of_mem _ (List.mem_append_right _ h)) hown hK.1 hP 0 rfl rfl 12 (by decide) (hts (.fieldLink RX4 83 "LieNightsModel" "readAnswers" "I") (List.mem_of_getElem? (i := 4) rfl)) (fun _ h9 => h9) rfl dX4_readAnswer_68 ?_
    refine va_iald hx hb hK.1 hP 7 0 rfl rfl (mNat hra hRa (by decide)) dX4_readAnswer_71 ?_
    rw [show (upd xk ra.toNatClampNeg 1) ra.toNatClampNeg = 1 from pk_us]
    refine lv_bipush (v := (-9)) hx hb dX4_readAnswer_72 (by decide) ?_
    refine lv_icmp_ne (tgt := 79) hx hb dX4_readAnswer_74 (by decide) (fun c74 => ?_) (fun c74 => ?_)
    · skip
      refine lv_aload_n hx hb dX4_readAnswer_79 rfl (lv_at hl 1 rfl) ?_
      refine lv_dup hx hb dX4_readAnswer_80 rfl ?_
      refine va_get (D := D) (ci := 4) (v := .int ax) (C := RX4) (T := TX4) (N := 23) hx hb hts (fun _ h => List.mem_cons_of_mem _ (List.mem_append_right _ h)) hown hK.1 hP 0 rfl rfl 11 (by decide) (hts (.fieldLink RX4 62 "LieNightsModel" "at" "I") (List.mem_of_getElem? (i := 1) rfl)) (fun _ h9 => h9) rfl dX4_readAnswer_81 ?_
      refine lv_iconst (v := 1) hx hb dX4_readAnswer_84 (by decide) ?_
      refine lv_iadd hx hb dX4_readAnswer_85 ?_
      refine va_put (D := D) (ci := 4) (v := .int (ax + 1)) (ty := tyX4 11) (C := RX4) (T := TX4) (N := 23) hx hb hts (fun _ h => List.mem_cons_of_mem _ (List.mem_append_right _ h)) tyX4 tyX4_ok nmX4 hown hK.1 hP hD hS 0 rfl rfl 11 (by decide) (hts (.fieldLink RX4 62 "LieNightsModel" "at" "I") (List.mem_of_getElem? (i := 1) rfl)) (fun _ h9 => h9) rfl (tyX4_ok 11 (by decide)) rfl rfl (Nat.le_of_ble_eq_true rfl) dX4_readAnswer_86 (fun H locs hP hD hS => ?_)
      have hP : va_P D vwCl (wMo cI h m1 m2 m3 m4 m5 m6 m7 m8 m9 m10 m11 m12 m13 lf tr an pn gr (ax + 1) ra rp rg rd so sl ces kd pl wt (upd xk ra.toNatClampNeg 1) xp xw wo su ask shw) H := hP
      have hD : va_D A (wMo cI h m1 m2 m3 m4 m5 m6 m7 m8 m9 m10 m11 m12 m13 lf tr an pn gr (ax + 1) ra rp rg rd so sl ces kd pl wt (upd xk ra.toNatClampNeg 1) xp xw wo su ask shw) := hD
      obtain ⟨zax86, hzax86⟩ : ∃ z : Int32, z = (ax + 1) := ⟨_, rfl⟩
      rw [← hzax86] at hP hD
      refine lv_aload_n hx hb dX4_readAnswer_89 rfl (lv_at hl 1 rfl) ?_
      refine va_get (D := D) (ci := 4) (v := .ref m8) (C := RX4) (T := TX4) (N := 23) hx hb hts (fun _ h => List.mem_cons_of_mem _ (List.mem_append_right _ h)) hown hK.1 hP 0 rfl rfl 16 (by decide) (hts (.fieldLink RX4 31 "LieNightsModel" "readPlace" "[I") (List.mem_of_getElem? (i := 5) rfl)) (fun _ h9 => h9) rfl dX4_readAnswer_90 ?_
      refine lv_aload_n hx hb dX4_readAnswer_93 rfl (lv_at hl 1 rfl) ?_
      refine va_get (D := D) (ci := 4) (v := .int ra) (C := RX4) (T := TX4) (N := 23) hx hb hts (fun _ h => List.mem_cons_of_mem _ (List.mem_append_right _ h)) hown hK.1 hP 0 rfl rfl 12 (by decide) (hts (.fieldLink RX4 83 "LieNightsModel" "readAnswers" "I") (List.mem_of_getElem? (i := 4) rfl)) (fun _ h9 => h9) rfl dX4_readAnswer_94 ?_
      refine lv_aload_n hx hb dX4_readAnswer_97 rfl (lv_at hl 1 rfl) ?_
      refine lv_iload_n hx hb dX4_readAnswer_98 rfl (lv_at hl 2 rfl) ?_
      refine lv_iconst (v := 0) hx hb dX4_readAnswer_99 (by decide) ?_
      refine kMi (wl' := (wMo cI h m1 m2 m3 m4 m5 m6 m7 m8 m9 m10 m11 m12 m13 lf tr an pn gr ((fX4_digit zax86 ces en 0).2) ra rp rg rd so sl ces kd pl wt (upd xk ra.toNatClampNeg 1) xp xw wo su ask shw)) (wc := (wMo cI h m1 m2 m3 m4 m5 m6 m7 m8 m9 m10 m11 m12 m13 lf tr an pn gr zax86 ra rp rg rd so sl ces kd pl wt (upd xk ra.toNatClampNeg 1) xp xw wo su ask shw)) (w1 := (wMo cI h m1 m2 m3 m4 m5 m6 m7 m8 m9 m10 m11 m12 m13 lf tr an pn gr ((fX4_digit zax86 ces en 0).2) ra rp rg rd so sl ces kd pl wt (upd xk ra.toNatClampNeg 1) xp xw wo su ask shw)) hP hD hS [0, 1, 2, 3, 4, 5, 6, 7, 8, 9, 10, 11, 12, 13] rfl rfl rfl (va_runV (As := [.int en, .int 0]) (rest := [.int ra, .ref m8]) ⟨hx, hb, hml, hown, hts⟩ (c_X4_digit l D cI cS h m1 m2 m3 m4 m5 m6 m7 m8 m9 m10 m11 m12 m13 lf tr an pn gr zax86 ra rp rg rd so sl ces kd pl wt (upd xk ra.toNatClampNeg 1) xp xw wo su ask shw en 0 (by rw [hzax86]; exact mInc hax hE c5) hE) (cwV 2 hts gX4_readAnswer_X4_digit rfl rfl rfl q_X4_digit ⟨Nat.le_of_ble_eq_true rfl, Nat.le_of_ble_eq_true rfl⟩) (kMV hK hP hD [0, 1, 2, 3, 4, 5, 6, 7, 8, 9, 10, 11, 12, 13] rfl rfl (va_recv hK.1 hP (ci := 4) (q0 := 0) rfl rfl) [.int en, .int 0]) rfl rfl hl.1 rfl (lv_room (Nat.le_of_ble_eq_true rfl)) dX4_readAnswer_100 ⟨Nat.zero_le _, Nat.zero_le _⟩) (fun H locs hP hD hS => ?_)
      refine va_iast hx hb hK.1 hP hD hS 8 0 rfl rfl (mNat hra hRa (by decide)) dX4_readAnswer_103 (fun H locs hP hD hS => ?_)
      have hP : va_P D vwCl (wMo cI h m1 m2 m3 m4 m5 m6 m7 m8 m9 m10 m11 m12 m13 lf tr an pn gr ((fX4_digit zax86 ces en 0).2) ra rp rg rd so sl ces kd pl wt (upd xk ra.toNatClampNeg 1) (upd xp ra.toNatClampNeg ((fX4_digit zax86 ces en 0).1)) xw wo su ask shw) H := hP
      have hD : va_D A (wMo cI h m1 m2 m3 m4 m5 m6 m7 m8 m9 m10 m11 m12 m13 lf tr an pn gr ((fX4_digit zax86 ces en 0).2) ra rp rg rd so sl ces kd pl wt (upd xk ra.toNatClampNeg 1) (upd xp ra.toNatClampNeg ((fX4_digit zax86 ces en 0).1)) xw wo su ask shw) := hD
      refine lv_aload_n hx hb dX4_readAnswer_104 rfl (lv_at hl 1 rfl) ?_
      refine lv_dup hx hb dX4_readAnswer_105 rfl ?_
      refine va_get (D := D) (ci := 4) (v := .int ra) (C := RX4) (T := TX4) (N := 23) hx hb hts (fun _ h => List.mem_cons_of_mem _ (List.mem_append_right _ h)) hown hK.1 hP 0 rfl rfl 12 (by decide) (hts (.fieldLink RX4 83 "LieNightsModel" "readAnswers" "I") (List.mem_of_getElem? (i := 4) rfl)) (fun _ h9 => h9) rfl dX4_readAnswer_106 ?_
      refine lv_iconst (v := 1) hx hb dX4_readAnswer_109 (by decide) ?_
      refine lv_iadd hx hb dX4_readAnswer_110 ?_
      refine va_put (D := D) (ci := 4) (v := .int (ra + 1)) (ty := tyX4 12) (C := RX4) (T := TX4) (N := 23) hx hb hts (fun _ h => List.mem_cons_of_mem _ (List.mem_append_right _ h)) tyX4 tyX4_ok nmX4 hown hK.1 hP hD hS 0 rfl rfl 12 (by decide) (hts (.fieldLink RX4 83 "LieNightsModel" "readAnswers" "I") (List.mem_of_getElem? (i := 4) rfl)) (fun _ h9 => h9) rfl (tyX4_ok 12 (by decide)) rfl rfl (Nat.le_of_ble_eq_true rfl) dX4_readAnswer_111 (fun H locs hP hD hS => ?_)
      have hP : va_P D vwCl (wMo cI h m1 m2 m3 m4 m5 m6 m7 m8 m9 m10 m11 m12 m13 lf tr an pn gr ((fX4_digit zax86 ces en 0).2) (ra + 1) rp rg rd so sl ces kd pl wt (upd xk ra.toNatClampNeg 1) (upd xp ra.toNatClampNeg ((fX4_digit zax86 ces en 0).1)) xw wo su ask shw) H := hP
      have hD : va_D A (wMo cI h m1 m2 m3 m4 m5 m6 m7 m8 m9 m10 m11 m12 m13 lf tr an pn gr ((fX4_digit zax86 ces en 0).2) (ra + 1) rp rg rd so sl ces kd pl wt (upd xk ra.toNatClampNeg 1) (upd xp ra.toNatClampNeg ((fX4_digit zax86 ces en 0).1)) xw wo su ask shw) := hD
      obtain ⟨zra111, hzra111⟩ : ∃ z : Int32, z = (ra + 1) := ⟨_, rfl⟩
      rw [← hzra111] at hP hD
      refine lv_aload_n hx hb dX4_readAnswer_114 rfl (lv_at hl 1 rfl) ?_
      refine va_get (D := D) (ci := 4) (v := .ref m8) (C := RX4) (T := TX4) (N := 23) hx hb hts (fun _ h => List.mem_cons_of_mem _ (List.mem_append_right _ h)) hown hK.1 hP 0 rfl rfl 16 (by decide) (hts (.fieldLink RX4 31 "LieNightsModel" "readPlace" "[I") (List.mem_of_getElem? (i := 5) rfl)) (fun _ h9 => h9) rfl dX4_readAnswer_115 ?_
      refine lv_aload_n hx hb dX4_readAnswer_118 rfl (lv_at hl 1 rfl) ?_
      refine va_get (D := D) (ci := 4) (v := .int zra111) (C := RX4) (T := TX4) (N := 23) hx hb hts (fun _ h => List.mem_cons_of_mem _ (List.mem_append_right _ h)) hown hK.1 hP 0 rfl rfl 12 (by decide) (hts (.fieldLink RX4 83 "LieNightsModel" "readAnswers" "I") (List.mem_of_getElem? (i := 4) rfl)) (fun _ h9 => h9) rfl dX4_readAnswer_119 ?_
      refine lv_iconst (v := 1) hx hb dX4_readAnswer_122 (by decide) ?_
      refine lv_isub hx hb dX4_readAnswer_123 ?_
      refine va_iald hx hb hK.1 hP 8 0 rfl rfl (by subst_vars; exact mNat1 rfl hRa (by decide)) dX4_readAnswer_124 ?_
      refine lv_bipush (v := (-9)) hx hb dX4_readAnswer_125 (by decide) ?_
      refine lv_icmp_eq (tgt := 134) hx hb dX4_readAnswer_127 (by decide) (fun c127 => ?_) (fun c127 => ?_)
      · skip
        refine lv_iconst (v := 0) hx hb dX4_readAnswer_134 (by decide) ?_
        subst hzra111
        subst hzax86
        have hR5 : (fX4_readAnswer ax ra ces xk xp en) = (0, (fX4_digit (ax + 1) ces en 0).2, (ra + 1), (upd xk ra.toNatClampNeg 1), (upd xp ra.toNatClampNeg ((fX4_digit (ax + 1) ces en 0).1))) := (by unfold fX4_readAnswer; rw [if_neg c5, if_neg c33, if_pos c43, if_pos c127])
        rw [hQ]
        exact W.zret (v := 0) (ty := .boolean) hx hb hr rfl (fun t ht hW => ⟨⟨_, (), rfl, (by show _ = _; rw [hR5]), (by show va_P D vwCl _ t.heap; rw [hR5, ht]; exact hP)⟩, hS.F ht⟩) hS.2.2 dX4_readAnswer_135
      refine lv_iconst (v := 1) hx hb dX4_readAnswer_130 (by decide) ?_
      refine lv_goto (tgt := 135) hx hb dX4_readAnswer_131 (by decide) ?_
      subst hzra111
      subst hzax86
      have hR6 : (fX4_readAnswer ax ra ces xk xp en) = (1, (fX4_digit (ax + 1) ces en 0).2, (ra + 1), (upd xk ra.toNatClampNeg 1), (upd xp ra.toNatClampNeg ((fX4_digit (ax + 1) ces en 0).1))) := (by unfold fX4_readAnswer; rw [if_neg c5, if_neg c33, if_pos c43, if_neg c127])
      rw [hQ]
      exact W.zret (v := 1) (ty := .boolean) hx hb hr rfl (fun t ht hW => ⟨⟨_, (), rfl, (by show _ = _; rw [hR6]), (by show va_P D vwCl _ t.heap; rw [hR6, ht]; exact hP)⟩, hS.F ht⟩) hS.2.2 dX4_readAnswer_135
    exact absurd c74 (by decide)
  refine lv_iconst (v := 0) hx hb dX4_readAnswer_36 (by decide) ?_
  refine lv_goto (tgt := 62) hx hb dX4_readAnswer_37 (by decide) ?_
  refine va_iast hx hb hK.1 hP hD hS 7 0 rfl rfl (mNat hra hRa (by decide)) dX4_readAnswer_62 (fun H locs hP hD hS => ?_)
  have hP : va_P D vwCl (wMo cI h m1 m2 m3 m4 m5 m6 m7 m8 m9 m10 m11 m12 m13 lf tr an pn gr ax ra rp rg rd so sl ces kd pl wt (upd xk ra.toNatClampNeg 0) xp xw wo su ask shw) H := hP
  have hD : va_D A (wMo cI h m1 m2 m3 m4 m5 m6 m7 m8 m9 m10 m11 m12 m13 lf tr an pn gr ax ra rp rg rd so sl ces kd pl wt (upd xk ra.toNatClampNeg 0) xp xw wo su ask shw) := hD
  refine lv_aload_n hx hb dX4_readAnswer_63 rfl (lv_at hl 1 rfl) ?_
  refine va_get (D := D) (ci := 4) (v := .ref m7) (C := RX4) (T := TX4) (N := 23) hx hb hts (fun _ h => List.mem_cons_of_mem _ (List.mem_append_right _ h)) hown hK.1 hP 0 rfl rfl 15 (by decide) (hts (.fieldLink RX4 28 "LieNightsModel" "readKind" "[I") (List.mem_of_getElem? (i := 3) rfl)) (fun _ h9 => h9) rfl dX4_readAnswer_64 ?_
  refine lv_aload_n hx hb dX4_readAnswer_67 rfl (lv_at hl 1 rfl) ?_
  refine va_get (D := D) (ci := 4) (v := .int ra) (C := RX4) (T := TX4) (N := 23) hx hb hts (fun _ h => List.mem_cons_of_mem _ (List.mem_append_right _ h)) hown hK.1 hP 0 rfl rfl 12 (by decide) (hts (.fieldLink RX4 83 "LieNightsModel" "readAnswers" "I") (List.mem_of_getElem? (i := 4) rfl)) (fun _ h9 => h9) rfl dX4_readAnswer_68 ?_
  refine va_iald hx hb hK.1 hP 7 0 rfl rfl (mNat hra hRa (by decide)) dX4_readAnswer_71 ?_
  rw [show (upd xk ra.toNatClampNeg 0) ra.toNatClampNeg = 0 from pk_us]
  refine lv_bipush (v := (-9)) hx hb dX4_readAnswer_72 (by decide) ?_
  refine lv_icmp_ne (tgt := 79) hx hb dX4_readAnswer_74 (by decide) (fun c74 => ?_) (fun c74 => ?_)
  · skip
    refine lv_aload_n hx hb dX4_readAnswer_79 rfl (lv_at hl 1 rfl) ?_
    refine lv_dup hx hb dX4_readAnswer_80 rfl ?_
    refine va_get (D := D) (ci := 4) (v := .int ax) (C := RX4) (T := TX4) (N := 23) hx hb hts (fun _ h => List.mem_cons_of_mem _ (List.mem_append_right _ h)) hown hK.1 hP 0 rfl rfl 11 (by decide) (hts (.fieldLink RX4 62 "LieNightsModel" "at" "I") (List.mem_of_getElem? (i := 1) rfl)) (fun _ h9 => h9) rfl dX4_readAnswer_81 ?_
    refine lv_iconst (v := 1) hx hb dX4_readAnswer_84 (by decide) ?_
    refine lv_iadd hx hb dX4_readAnswer_85 ?_
    refine va_put (D := D) (ci := 4) (v := .int (ax + 1)) (ty := tyX4 11) (C := RX4) (T := TX4) (N := 23) hx hb hts (fun _ h => List.mem_cons_of_mem _ (List.mem_append_right _ h)) tyX4 tyX4_ok nmX4 hown hK.1 hP hD hS 0 rfl rfl 11 (by decide) (hts (.fieldLink RX4 62 "LieNightsModel" "at" "I") (List.mem_of_getElem? (i := 1) rfl)) (fun _ h9 => h9) rfl (tyX4_ok 11 (by decide)) rfl rfl (Nat.le_of_ble_eq_true rfl) dX4_readAnswer_86 (fun H locs hP hD hS => ?_)
    have hP : va_P D vwCl (wMo cI h m1 m2 m3 m4 m5 m6 m7 m8 m9 m10 m11 m12 m13 lf tr an pn gr (ax + 1) ra rp rg rd so sl ces kd pl wt (upd xk ra.toNatClampNeg 0) xp xw wo su ask shw) H := hP
    have hD : va_D A (wMo cI h m1 m2 m3 m4 m5 m6 m7 m8 m9 m10 m11 m12 m13 lf tr an pn gr (ax + 1) ra rp rg rd so sl ces kd pl wt (upd xk ra.toNatClampNeg 0) xp xw wo su ask shw) := hD
    obtain ⟨zax86, hzax86⟩ : ∃ z : Int32, z = (ax + 1) := ⟨_, rfl⟩
    rw [← hzax86] at hP hD
    refine lv_aload_n hx hb dX4_readAnswer_89 rfl (lv_at hl 1 rfl) ?_
    refine va_get (D := D) (ci := 4) (v := .ref m8) (C := RX4) (T := TX4) (N := 23) hx hb hts (fun _ h => List.mem_cons_of_mem _ (List.mem_append_right _ h)) hown hK.1 hP 0 rfl rfl 16 (by decide) (hts (.fieldLink RX4 31 "LieNightsModel" "readPlace" "[I") (List.mem_of_getElem? (i := 5) rfl)) (fun _ h9 => h9) rfl dX4_readAnswer_90 ?_
    refine lv_aload_n hx hb dX4_readAnswer_93 rfl (lv_at hl 1 rfl) ?_
    refine va_get (D := D) (ci := 4) (v := .int ra) (C := RX4) (T := TX4) (N := 23) hx hb hts (fun _ h => List.mem_cons_of_mem _ (List.mem_append_right _ h)) hown hK.1 hP 0 rfl rfl 12 (by decide) (hts (.fieldLink RX4 83 "LieNightsModel" "readAnswers" "I") (List.mem_of_getElem? (i := 4) rfl)) (fun _ h9 => h9) rfl dX4_readAnswer_94 ?_
    refine lv_aload_n hx hb dX4_readAnswer_97 rfl (lv_at hl 1 rfl) ?_
    refine lv_iload_n hx hb dX4_readAnswer_98 rfl (lv_at hl 2 rfl) ?_
    refine lv_iconst (v := 0) hx hb dX4_readAnswer_99 (by decide) ?_
    refine kMi (wl' := (wMo cI h m1 m2 m3 m4 m5 m6 m7 m8 m9 m10 m11 m12 m13 lf tr an pn gr ((fX4_digit zax86 ces en 0).2) ra rp rg rd so sl ces kd pl wt (upd xk ra.toNatClampNeg 0) xp xw wo su ask shw)) (wc := (wMo cI h m1 m2 m3 m4 m5 m6 m7 m8 m9 m10 m11 m12 m13 lf tr an pn gr zax86 ra rp rg rd so sl ces kd pl wt (upd xk ra.toNatClampNeg 0) xp xw wo su ask shw)) (w1 := (wMo cI h m1 m2 m3 m4 m5 m6 m7 m8 m9 m10 m11 m12 m13 lf tr an pn gr ((fX4_digit zax86 ces en 0).2) ra rp rg rd so sl ces kd pl wt (upd xk ra.toNatClampNeg 0) xp xw wo su ask shw)) hP hD hS [0, 1, 2, 3, 4, 5, 6, 7, 8, 9, 10, 11, 12, 13] rfl rfl rfl (va_runV (As := [.int en, .int 0]) (rest := [.int ra, .ref m8]) ⟨hx, hb, hml, hown, hts⟩ (c_X4_digit l D cI cS h m1 m2 m3 m4 m5 m6 m7 m8 m9 m10 m11 m12 m13 lf tr an pn gr zax86 ra rp rg rd so sl ces kd pl wt (upd xk ra.toNatClampNeg 0) xp xw wo su ask shw en 0 (by rw [hzax86]; exact mInc hax hE c5) hE) (cwV 2 hts gX4_readAnswer_X4_digit rfl rfl rfl q_X4_digit ⟨Nat.le_of_ble_eq_true rfl, Nat.le_of_ble_eq_true rfl⟩) (kMV hK hP hD [0, 1, 2, 3, 4, 5, 6, 7, 8, 9, 10, 11, 12, 13] rfl rfl (va_recv hK.1 hP (ci := 4) (q0 := 0) rfl rfl) [.int en, .int 0]) rfl rfl hl.1 rfl (lv_room (Nat.le_of_ble_eq_true rfl)) dX4_readAnswer_100 ⟨Nat.zero_le _, Nat.zero_le _⟩) (fun H locs hP hD hS => ?_)
    refine va_iast hx hb hK.1 hP hD hS 8 0 rfl rfl (mNat hra hRa (by decide)) dX4_readAnswer_103 (fun H locs hP hD hS => ?_)
    have hP : va_P D vwCl (wMo cI h m1 m2 m3 m4 m5 m6 m7 m8 m9 m10 m11 m12 m13 lf tr an pn gr ((fX4_digit zax86 ces en 0).2) ra rp rg rd so sl ces kd pl wt (upd xk ra.toNatClampNeg 0) (upd xp ra.toNatClampNeg ((fX4_digit zax86 ces en 0).1)) xw wo su ask shw) H := hP
    have hD : va_D A (wMo cI h m1 m2 m3 m4 m5 m6 m7 m8 m9 m10 m11 m12 m13 lf tr an pn gr ((fX4_digit zax86 ces en 0).2) ra rp rg rd so sl ces kd pl wt (upd xk ra.toNatClampNeg 0) (upd xp ra.toNatClampNeg ((fX4_digit zax86 ces en 0).1)) xw wo su ask shw) := hD
    refine lv_aload_n hx hb dX4_readAnswer_104 rfl (lv_at hl 1 rfl) ?_
    refine lv_dup hx hb dX4_readAnswer_105 rfl ?_
    refine va_get (D := D) (ci := 4) (v := .int ra) (C := RX4) (T := TX4) (N := 23) hx hb hts (fun _ h => List.mem_cons_of_mem _ (List.mem_append_right _ h)) hown hK.1 hP 0 rfl rfl 12 (by decide) (hts (.fieldLink RX4 83 "LieNightsModel" "readAnswers" "I") (List.mem_of_getElem? (i := 4) rfl)) (fun _ h9 => h9) rfl dX4_readAnswer_106 ?_
    refine lv_iconst (v := 1) hx hb dX4_readAnswer_109 (by decide) ?_
    refine lv_iadd hx hb dX4_readAnswer_110 ?_
    refine va_put (D := D) (ci := 4) (v := .int (ra + 1)) (ty := tyX4 12) (C := RX4) (T := TX4) (N := 23) hx hb hts (fun _ h => List.mem_cons_of_mem _ (List.mem_append_right _ h)) tyX4 tyX4_ok nmX4 hown hK.1 hP hD hS 0 rfl rfl 12 (by decide) (hts (.fieldLink RX4 83 "LieNightsModel" "readAnswers" "I") (List.mem_of_getElem? (i := 4) rfl)) (fun _ h9 => h9) rfl (tyX4_ok 12 (by decide)) rfl rfl (Nat.le_of_ble_eq_true rfl) dX4_readAnswer_111 (fun H locs hP hD hS => ?_)
    have hP : va_P D vwCl (wMo cI h m1 m2 m3 m4 m5 m6 m7 m8 m9 m10 m11 m12 m13 lf tr an pn gr ((fX4_digit zax86 ces en 0).2) (ra + 1) rp rg rd so sl ces kd pl wt (upd xk ra.toNatClampNeg 0) (upd xp ra.toNatClampNeg ((fX4_digit zax86 ces en 0).1)) xw wo su ask shw) H := hP
    have hD : va_D A (wMo cI h m1 m2 m3 m4 m5 m6 m7 m8 m9 m10 m11 m12 m13 lf tr an pn gr ((fX4_digit zax86 ces en 0).2) (ra + 1) rp rg rd so sl ces kd pl wt (upd xk ra.toNatClampNeg 0) (upd xp ra.toNatClampNeg ((fX4_digit zax86 ces en 0).1)) xw wo su ask shw) := hD
    obtain ⟨zra111, hzra111⟩ : ∃ z : Int32, z = (ra + 1) := ⟨_, rfl⟩
    rw [← hzra111] at hP hD
    refine lv_aload_n hx hb dX4_readAnswer_114 rfl (lv_at hl 1 rfl) ?_
    refine va_get (D := D) (ci := 4) (v := .ref m8) (C := RX4) (T := TX4) (N := 23) hx hb hts (fun _ h => List.mem_cons_of_mem _ (List.mem_append_right _ h)) hown hK.1 hP 0 rfl rfl 16 (by decide) (hts (.fieldLink RX4 31 "LieNightsModel" "readPlace" "[I") (List.mem_of_getElem? (i := 5) rfl)) (fun _ h9 => h9) rfl dX4_readAnswer_115 ?_
    refine lv_aload_n hx hb dX4_readAnswer_118 rfl (lv_at hl 1 rfl) ?_
    refine va_get (D := D) (ci := 4) (v := .int zra111) (C := RX4) (T := TX4) (N := 23) hx hb hts (fun _ h => List.mem_cons_of_mem _ (List.mem_append_right _ h)) hown hK.1 hP 0 rfl rfl 12 (by decide) (hts (.fieldLink RX4 83 "LieNightsModel" "readAnswers" "I") (List.mem_of_getElem? (i := 4) rfl)) (fun _ h9 => h9) rfl dX4_readAnswer_119 ?_
    refine lv_iconst (v := 1) hx hb dX4_readAnswer_122 (by decide) ?_
    refine lv_isub hx hb dX4_readAnswer_123 ?_
    refine va_iald hx hb hK.1 hP 8 0 rfl rfl (by subst_vars; exact mNat1 rfl hRa (by decide)) dX4_readAnswer_124 ?_
    refine lv_bipush (v := (-9)) hx hb dX4_readAnswer_125 (by decide) ?_
    refine lv_icmp_eq (tgt := 134) hx hb dX4_readAnswer_127 (by decide) (fun c127 => ?_) (fun c127 => ?_)
    · skip
      refine lv_iconst (v := 0) hx hb dX4_readAnswer_134 (by decide) ?_
      subst hzra111
      subst hzax86
      have hR7 : (fX4_readAnswer ax ra ces xk xp en) = (0, (fX4_digit (ax + 1) ces en 0).2, (ra + 1), (upd xk ra.toNatClampNeg 0), (upd xp ra.toNatClampNeg ((fX4_digit (ax + 1) ces en 0).1))) := (by unfold fX4_readAnswer; rw [if_neg c5, if_pos c33, if_pos c127])
      rw [hQ]
      exact W.zret (v := 0) (ty := .boolean) hx hb hr rfl (fun t ht hW => ⟨⟨_, (), rfl, (by show _ = _; rw [hR7]), (by show va_P D vwCl _ t.heap; rw [hR7, ht]; exact hP)⟩, hS.F ht⟩) hS.2.2 dX4_readAnswer_135
    refine lv_iconst (v := 1) hx hb dX4_readAnswer_130 (by decide) ?_
    refine lv_goto (tgt := 135) hx hb dX4_readAnswer_131 (by decide) ?_
    subst hzra111
    subst hzax86
    have hR8 : (fX4_readAnswer ax ra ces xk xp en) = (1, (fX4_digit (ax + 1) ces en 0).2, (ra + 1), (upd xk ra.toNatClampNeg 0), (upd xp ra.toNatClampNeg ((fX4_digit (ax + 1) ces en 0).1))) := (by unfold fX4_readAnswer; rw [if_neg c5, if_pos c33, if_neg c127])
    rw [hQ]
    exact W.zret (v := 1) (ty := .boolean) hx hb hr rfl (fun t ht hW => ⟨⟨_, (), rfl, (by show _ = _; rw [hR8]), (by show va_P D vwCl _ t.heap; rw [hR8, ht]; exact hP)⟩, hS.F ht⟩) hS.2.2 dX4_readAnswer_135
  exact absurd c74 (by decide)
