def aX4_readThePillars_0 (en wax_0 wrp_0 : Int32) (wxw_0 : Nat → Int32) : (Int32 × Int32 × Int32 × (Nat → Int32)) := (if wax_0 = en then (1, wax_0, wrp_0, wxw_0) else (0, wax_0, wrp_0, wxw_0))
def sX4_readThePillars_0 (ces : Nat → Int32) (en : Int32) (k0 : Nat) (wax_0 wrp_0 : Int32) (wxw_0 : Nat → Int32) : (Int32 × Int32 × (Nat → Int32)) ⊕ (Int32 × Int32 × Int32 × (Nat → Int32)) := (if wrp_0 = 0 then (if (fX4_isSign wax_0 ces en 47).1 = 0 then (.inr (0, (fX4_isSign wax_0 ces en 47).2, wrp_0, wxw_0)) else (if ((upd wxw_0 wrp_0.toNatClampNeg ((fX4_digit (fX4_isSign wax_0 ces en 47).2 ces en 1).1)) ((wrp_0 + 1) - 1).toNatClampNeg) = (-9) then (.inr (0, (fX4_digit (fX4_isSign wax_0 ces en 47).2 ces en 1).2, (wrp_0 + 1), (upd wxw_0 wrp_0.toNatClampNeg ((fX4_digit (fX4_isSign wax_0 ces en 47).2 ces en 1).1)))) else (.inl ((fX4_digit (fX4_isSign wax_0 ces en 47).2 ces en 1).2, (wrp_0 + 1), (upd wxw_0 wrp_0.toNatClampNeg ((fX4_digit (fX4_isSign wax_0 ces en 47).2 ces en 1).1)))))) else (if (en : Int32) ≤ wax_0 then (.inr (aX4_readThePillars_0 en wax_0 wrp_0 wxw_0)) else (if (fX4_isSign wax_0 ces en 47).1 = 0 then (.inr (0, (fX4_isSign wax_0 ces en 47).2, wrp_0, wxw_0)) else (if ((upd wxw_0 wrp_0.toNatClampNeg ((fX4_digit (fX4_isSign wax_0 ces en 47).2 ces en 1).1)) ((wrp_0 + 1) - 1).toNatClampNeg) = (-9) then (.inr (0, (fX4_digit (fX4_isSign wax_0 ces en 47).2 ces en 1).2, (wrp_0 + 1), (upd wxw_0 wrp_0.toNatClampNeg ((fX4_digit (fX4_isSign wax_0 ces en 47).2 ces en 1).1)))) else (.inl ((fX4_digit (fX4_isSign wax_0 ces en 47).2 ces en 1).2, (wrp_0 + 1), (upd wxw_0 wrp_0.toNatClampNeg ((fX4_digit (fX4_isSign wax_0 ces en 47).2 ces en 1).1))))))))
def fX4_readThePillars (ax rp : Int32) (ces xw : Nat → Int32) (en : Int32) : Int32 × Int32 × Int32 × (Nat → Int32) := (lqr (lq (fun k a => sX4_readThePillars_0 ces en k a.1 a.2.1 a.2.2) (ax, rp, xw) 5) (fun a => aX4_readThePillars_0 en a.1 a.2.1 a.2.2))
theorem q_X4_readThePillars : yX4_readThePillars.cls = RX4 ∧ yX4_readThePillars.cls ≠ "java/lang/invoke/MethodHandle" ∧ yX4_readThePillars.cls ≠ "java/lang/invoke/VarHandle" ∧ (parseMethodDescriptor yX4_readThePillars.desc).map (fun d => d.parameters.length) = some 1 := by decide +kernel
set_option maxHeartbeats 4000000 in
set_option maxRecDepth 100000 in
theorem c_X4_readThePillars (l : Launch) (D : va_G) (cI cS : ClassId) (h m1 m2 m3 m4 m5 m6 m7 m8 m9 m10 m11 m12 m13 : Nat) (lf tr an pn gr ax ra rp rg rd : Int32) (so sl ces kd pl wt xk xp xw wo su ask shw : Nat → Int32) (en : Int32) (hax : ¬ ax < 0) (hE : en ≤ 240) (hrp : rp = 0) : MMi l yX4_readThePillars wsX4_readThePillars { frames := 2, cells := 0, slots := 0, locals := 44 } D cI cS (wMo cI h m1 m2 m3 m4 m5 m6 m7 m8 m9 m10 m11 m12 m13 lf tr an pn gr ax ra rp rg rd so sl ces kd pl wt xk xp xw wo su ask shw) [.ref h, .int en] ((fX4_readThePillars ax rp ces xw en).1) (wMo cI h m1 m2 m3 m4 m5 m6 m7 m8 m9 m10 m11 m12 m13 lf tr an pn gr ((fX4_readThePillars ax rp ces xw en).2.1) ra ((fX4_readThePillars ax rp ces xw en).2.2.1) rg rd so sl ces kd pl wt xk xp ((fX4_readThePillars ax rp ces xw en).2.2.2) wo su ask shw) := by
  refine kEnterM (cc := cX4_readThePillars) (maxL := 2) (ret := (some .boolean)) (by decide) rfl (Nat.le_of_ble_eq_true rfl) ?_
  intro p e s m below meth c ls Qf hQ hx hb hml hr hlocks hown hts hK hP hD hS hl
  have hown : s.vm.findClass RX4 = some m.cls := hown
  have hl : lv_has ls 2 [(0, .ref h), (1, .int en)] := hl
  generalize kA (wMo cI h m1 m2 m3 m4 m5 m6 m7 m8 m9 m10 m11 m12 m13 lf tr an pn gr ax ra rp rg rd so sl ces kd pl wt xk xp xw wo su ask shw) = A at hQ hD hS
  have hR1 : (fX4_readThePillars ax rp ces xw en) = (lqr (lq (fun k a => sX4_readThePillars_0 ces en k a.1 a.2.1 a.2.2) (ax, rp, xw) 5) (fun a => aX4_readThePillars_0 en a.1 a.2.1 a.2.2)) := rfl
  have aft0 : ∀ (wax_0 : Int32) (wrp_0 : Int32) (wxw_0 : Nat → Int32), (fX4_readThePillars ax rp ces xw en) = aX4_readThePillars_0 en wax_0 wrp_0 wxw_0 →  ∀ (H : Heap) (locs : List Loc), va_P D vwCl (wMo cI h m1 m2 m3 m4 m5 m6 m7 m8 m9 m10 m11 m12 m13 lf tr an pn gr wax_0 ra wrp_0 rg rd so sl ces kd pl wt xk xp wxw_0 wo su ask shw) H → va_D A (wMo cI h m1 m2 m3 m4 m5 m6 m7 m8 m9 m10 m11 m12 m13 lf tr an pn gr wax_0 ra wrp_0 rg rd so sl ces kd pl wt xk xp wxw_0 wo su ask shw) → va_S A s.heap H locs → ∀ (ls : Array Slot), lv_has ls 2 [(0, .ref h), (1, .int en)] → W p l e { frames := 2, cells := 0, slots := 0, locals := 44 } s m ([.ref h, .int en] : List Value).toArray below meth c H locs 0 0 Qf (F0 m 78 ls []) := by
    intro wax_0 wrp_0 wxw_0 hRa0  H locs hP hD hS ls hl
    refine lv_aload_n hx hb dX4_readThePillars_78 rfl (lv_at hl 0 rfl) ?_
    refine va_get (D := D) (ci := 4) (v := .int wax_0) (C := RX4) (T := TX4) (N := 23) hx hb hts (fun _ h => List.mem_cons_of_mem _ (List.mem_append_right _ h)) hown hK.1 hP 0 rfl rfl 11 (by decide) (hts (.fieldLink RX4 62 "LieNightsModel" "at" "I") (List.mem_of_getElem? (i := 2) rfl)) (fun _ h9 => h9) rfl dX4_readThePillars_79 ?_
    refine lv_iload_n hx hb dX4_readThePillars_82 rfl (lv_at hl 1 rfl) ?_
    refine lv_icmp_ne (tgt := 90) hx hb dX4_readThePillars_83 (by decide) (fun c83 => ?_) (fun c83 => ?_)
    · skip
      refine lv_iconst (v := 0) hx hb dX4_readThePillars_90 (by decide) ?_
      have hR2 : (fX4_readThePillars ax rp ces xw en) = (0, wax_0, wrp_0, wxw_0) := hRa0.trans (by unfold aX4_readThePillars_0; rw [if_neg c83])
      rw [hQ]
      exact W.zret (v := 0) (ty := .boolean) hx hb hr rfl (fun t ht hW => ⟨⟨_, (), rfl, (by show _ = _; rw [hR2]), (by show va_P D vwCl _ t.heap; rw [hR2, ht]; exact hP)⟩, hS.F ht⟩) hS.2.2 dX4_readThePillars_91
    refine lv_iconst (v := 1) hx hb dX4_readThePillars_86 (by decide) ?_
    refine lv_goto (tgt := 91) hx hb dX4_readThePillars_87 (by decide) ?_
    have hR3 : (fX4_readThePillars ax rp ces xw en) = (1, wax_0, wrp_0, wxw_0) := hRa0.trans (by unfold aX4_readThePillars_0; rw [if_pos c83])
    rw [hQ]
    exact W.zret (v := 1) (ty := .boolean) hx hb hr rfl (fun t ht hW => ⟨⟨_, (), rfl, (by show _ = _; rw [hR3]), (by show va_P D vwCl _ t.heap; rw [hR3, ht]; exact hP)⟩, hS.F ht⟩) hS.2.2 dX4_readThePillars_91
  have loop0 : ∀ (n k0 : Nat), k0 ≤ 5 → 5 + 1 ≤ k0 + n → ∀ (wax_0 : Int32) (wrp_0 : Int32) (wxw_0 : Nat → Int32), lq (fun k a => sX4_readThePillars_0 ces en k a.1 a.2.1 a.2.2) (ax, rp, xw) k0 = Sum.inl (wax_0, wrp_0, wxw_0) → wrp_0 = nI k0 → ¬ wax_0 < 0 → ∀ (H : Heap) (locs : List Loc), va_P D vwCl (wMo cI h m1 m2 m3 m4 m5 m6 m7 m8 m9 m10 m11 m12 m13 lf tr an pn gr wax_0 ra wrp_0 rg rd so sl ces kd pl wt xk xp wxw_0 wo su ask shw) H → va_D A (wMo cI h m1 m2 m3 m4 m5 m6 m7 m8 m9 m10 m11 m12 m13 lf tr an pn gr wax_0 ra wrp_0 rg rd so sl ces kd pl wt xk xp wxw_0 wo su ask shw) → va_S A s.heap H locs → ∀ (ls : Array Slot), lv_has ls 2 [(0, .ref h), (1, .int en)] → W p l e { frames := 2, cells := 0, slots := 0, locals := 44 } s m ([.ref h, .int en] : List Value).toArray below meth c H locs 0 0 Qf (F0 m 0 ls []) := by
    intro n
    induction n with
    | zero => intro k0 h1 h2; exact absurd h2 (by omega)
    | succ n ih =>
      intro k0 hk0 hn0 wax_0 wrp_0 wxw_0 hacc0 hrpk hax0 H locs hP hD hS ls hl
      have ih0 := ih
      refine lv_aload_n hx hb dX4_readThePillars_0 rfl (lv_at hl 0 rfl) ?_
      refine va_get (D := D) (ci := 4) (v := .int wrp_0) (C := RX4) (T := TX4) (N := 23) hx hb hts (fun _ h => List.mem_cons_of_mem _ (List.mem_append_right _ h)) hown hK.1 hP 0 rfl rfl 13 (by decide) (hts (.fieldLink RX4 92 "LieNightsModel" "readPillars" "I") (List.mem_of_getElem? (i := 1) rfl)) (fun _ h9 => h9) rfl dX4_readThePillars_1 ?_
      refine lv_if_eq (tgt := 23) hx hb dX4_readThePillars_4 (by decide) (fun c4 => ?_) (fun c4 => ?_)
      · skip
        have hlt0 : k0 < 5 := by first | exact hlt0 | exact mZk hrpk hk0 c4
        refine lv_aload_n hx hb dX4_readThePillars_23 rfl (lv_at hl 0 rfl) ?_
        refine lv_iload_n hx hb dX4_readThePillars_24 rfl (lv_at hl 1 rfl) ?_
        refine lv_bipush (v := 47) hx hb dX4_readThePillars_25 (by decide) ?_
        refine kMi (wl' := (wMo cI h m1 m2 m3 m4 m5 m6 m7 m8 m9 m10 m11 m12 m13 lf tr an pn gr ((fX4_isSign wax_0 ces en 47).2) ra wrp_0 rg rd so sl ces kd pl wt xk xp wxw_0 wo su ask shw)) (wc := (wMo cI h m1 m2 m3 m4 m5 m6 m7 m8 m9 m10 m11 m12 m13 lf tr an pn gr wax_0 ra wrp_0 rg rd so sl ces kd pl wt xk xp wxw_0 wo su ask shw)) (w1 := (wMo cI h m1 m2 m3 m4 m5 m6 m7 m8 m9 m10 m11 m12 m13 lf tr an pn gr ((fX4_isSign wax_0 ces en 47).2) ra wrp_0 rg rd so sl ces kd pl wt xk xp wxw_0 wo su ask shw)) hP hD hS [0, 1, 2, 3, 4, 5, 6, 7, 8, 9, 10, 11, 12, 13] rfl rfl rfl (va_runV (As := [.int en, .int 47]) (rest := []) ⟨hx, hb, hml, hown, hts⟩ (c_X4_isSign l D cI cS h m1 m2 m3 m4 m5 m6 m7 m8 m9 m10 m11 m12 m13 lf tr an pn gr wax_0 ra wrp_0 rg rd so sl ces kd pl wt xk xp wxw_0 wo su ask shw en 47 hax0 hE) (cwV 2 hts gX4_readThePillars_X4_isSign rfl rfl rfl q_X4_isSign ⟨Nat.le_of_ble_eq_true rfl, Nat.le_of_ble_eq_true rfl⟩) (kMV hK hP hD [0, 1, 2, 3, 4, 5, 6, 7, 8, 9, 10, 11, 12, 13] rfl rfl (va_recv hK.1 hP (ci := 4) (q0 := 0) rfl rfl) [.int en, .int 47]) rfl rfl hl.1 rfl (lv_room (Nat.le_of_ble_eq_true rfl)) dX4_readThePillars_27 ⟨Nat.zero_le _, Nat.zero_le _⟩) (fun H locs hP hD hS => ?_)
        obtain ⟨zax27, hzax27⟩ : ∃ z : Int32, z = (fX4_isSign wax_0 ces en 47).2 := ⟨_, rfl⟩
        rw [← hzax27] at hP hD
        refine lv_if_ne (tgt := 35) hx hb dX4_readThePillars_30 (by decide) (fun c30 => ?_) (fun c30 => ?_)
        · skip
          refine lv_aload_n hx hb dX4_readThePillars_35 rfl (lv_at hl 0 rfl) ?_
          refine va_get (D := D) (ci := 4) (v := .ref m9) (C := RX4) (T := TX4) (N := 23) hx hb hts (fun _ h => List.mem_cons_of_mem _ (List.mem_append_right _ h)) hown hK.1 hP 0 rfl rfl 17 (by decide) (hts (.fieldLink RX4 34 "LieNightsModel" "readWeight" "[I") (List.mem_of_getElem? (i := 3) rfl)) (fun _ h9 => h9) rfl dX4_readThePillars_36 ?_
          refine lv_aload_n hx hb dX4_readThePillars_39 rfl (lv_at hl 0 rfl) ?_
          refine va_get (D := D) (ci := 4) (v := .int wrp_0) (C := RX4) (T := TX4) (N := 23) hx hb hts (fun _ h => List.mem_cons_of_mem _ (List.mem_append_right _ h)) hown hK.1 hP 0 rfl rfl 13 (by decide) (hts (.fieldLink RX4 92 "LieNightsModel" "readPillars" "I") (List.mem_of_getElem? (i := 1) rfl)) (fun _ h9 => h9) rfl dX4_readThePillars_40 ?_
          refine lv_aload_n hx hb dX4_readThePillars_43 rfl (lv_at hl 0 rfl) ?_
          refine lv_iload_n hx hb dX4_readThePillars_44 rfl (lv_at hl 1 rfl) ?_
          refine lv_iconst (v := 1) hx hb dX4_readThePillars_45 (by decide) ?_
          refine kMi (wl' := (wMo cI h m1 m2 m3 m4 m5 m6 m7 m8 m9 m10 m11 m12 m13 lf tr an pn gr ((fX4_digit zax27 ces en 1).2) ra wrp_0 rg rd so sl ces kd pl wt xk xp wxw_0 wo su ask shw)) (wc := (wMo cI h m1 m2 m3 m4 m5 m6 m7 m8 m9 m10 m11 m12 m13 lf tr an pn gr zax27 ra wrp_0 rg rd so sl ces kd pl wt xk xp wxw_0 wo su ask shw)) (w1 := (wMo cI h m1 m2 m3 m4 m5 m6 m7 m8 m9 m10 m11 m12 m13 lf tr an pn gr ((fX4_digit zax27 ces en 1).2) ra wrp_0 rg rd so sl ces kd pl wt xk xp wxw_0 wo su ask shw)) hP hD hS [0, 1, 2, 3, 4, 5, 6, 7, 8, 9, 10, 11, 12, 13] rfl rfl rfl (va_runV (As := [.int en, .int 1]) (rest := [.int wrp_0, .ref m9]) ⟨hx, hb, hml, hown, hts⟩ (c_X4_digit l D cI cS h m1 m2 m3 m4 m5 m6 m7 m8 m9 m10 m11 m12 m13 lf tr an pn gr zax27 ra wrp_0 rg rd so sl ces kd pl wt xk xp wxw_0 wo su ask shw en 1 (by rw [hzax27]; exact mSg hax0 hE) hE) (cwV 2 hts gX4_readThePillars_X4_digit rfl rfl rfl q_X4_digit ⟨Nat.le_of_ble_eq_true rfl, Nat.le_of_ble_eq_true rfl⟩) (kMV hK hP hD [0, 1, 2, 3, 4, 5, 6, 7, 8, 9, 10, 11, 12, 13] rfl rfl (va_recv hK.1 hP (ci := 4) (q0 := 0) rfl rfl) [.int en, .int 1]) rfl rfl hl.1 rfl (lv_room (Nat.le_of_ble_eq_true rfl)) dX4_readThePillars_46 ⟨Nat.zero_le _, Nat.zero_le _⟩) (fun H locs hP hD hS => ?_)
          obtain ⟨zax46, hzax46⟩ : ∃ z : Int32, z = (fX4_digit zax27 ces en 1).2 := ⟨_, rfl⟩
          rw [← hzax46] at hP hD
          refine va_iast hx hb hK.1 hP hD hS 9 0 rfl rfl (mNat hrpk hlt0 (by decide)) dX4_readThePillars_49 (fun H locs hP hD hS => ?_)
          have hP : va_P D vwCl (wMo cI h m1 m2 m3 m4 m5 m6 m7 m8 m9 m10 m11 m12 m13 lf tr an pn gr zax46 ra wrp_0 rg rd so sl ces kd pl wt xk xp (upd wxw_0 wrp_0.toNatClampNeg ((fX4_digit zax27 ces en 1).1)) wo su ask shw) H := hP
          have hD : va_D A (wMo cI h m1 m2 m3 m4 m5 m6 m7 m8 m9 m10 m11 m12 m13 lf tr an pn gr zax46 ra wrp_0 rg rd so sl ces kd pl wt xk xp (upd wxw_0 wrp_0.toNatClampNeg ((fX4_digit zax27 ces en 1).1)) wo su ask shw) := hD
          obtain ⟨zxw49, hzxw49⟩ : ∃ z : Nat → Int32, z = (upd wxw_0 wrp_0.toNatClampNeg ((fX4_digit zax27 ces en 1).1)) := ⟨_, rfl⟩
          rw [← hzxw49] at hP hD
          refine lv_aload_n hx hb dX4_readThePillars_50 rfl (lv_at hl 0 rfl) ?_
          refine lv_dup hx hb dX4_readThePillars_51 rfl ?_
          refine va_get (D := D) (ci := 4) (v := .int wrp_0) (C := RX4) (T := TX4) (N := 23) hx hb hts (fun _ h => List.mem_cons_of_mem _ (List.mem_append_right _ h)) hown hK.1 hP 0 rfl rfl 13 (by decide) (hts (.fieldLink RX4 92 "LieNightsModel" "readPillars" "I") (List.mem_of_getElem? (i := 1) rfl)) (fun _ h9 => h9) rfl dX4_readThePillars_52 ?_
          refine lv_iconst (v := 1) hx hb dX4_readThePillars_55 (by decide) ?_
          refine lv_iadd hx hb dX4_readThePillars_56 ?_
          refine va_put (D := D) (ci := 4) (v := .int (wrp_0 + 1)) (ty := tyX4 13) (C := RX4) (T := TX4) (N := 23) hx hb hts (fun _ h => List.mem_cons_of_mem _ (List.mem_append_right _ h)) tyX4 tyX4_ok nmX4 hown hK.1 hP hD hS 0 rfl rfl 13 (by decide) (hts (.fieldLink RX4 92 "LieNightsModel" "readPillars" "I") (List.mem_of_getElem? (i := 1) rfl)) (fun _ h9 => h9) rfl (tyX4_ok 13 (by decide)) rfl rfl (Nat.le_of_ble_eq_true rfl) dX4_readThePillars_57 (fun H locs hP hD hS => ?_)
          have hP : va_P D vwCl (wMo cI h m1 m2 m3 m4 m5 m6 m7 m8 m9 m10 m11 m12 m13 lf tr an pn gr zax46 ra (wrp_0 + 1) rg rd so sl ces kd pl wt xk xp zxw49 wo su ask shw) H := hP
          have hD : va_D A (wMo cI h m1 m2 m3 m4 m5 m6 m7 m8 m9 m10 m11 m12 m13 lf tr an pn gr zax46 ra (wrp_0 + 1) rg rd so sl ces kd pl wt xk xp zxw49 wo su ask shw) := hD
          obtain ⟨zrp57, hzrp57⟩ : ∃ z : Int32, z = (wrp_0 + 1) := ⟨_, rfl⟩
          rw [← hzrp57] at hP hD
          refine lv_aload_n hx hb dX4_readThePillars_60 rfl (lv_at hl 0 rfl) ?_
          refine va_get (D := D) (ci := 4) (v := .ref m9) (C := RX4) (T := TX4) (N := 23) hx hb hts (fun _ h => List.mem_cons_of_mem _ (List.mem_append_right _ h)) hown hK.1 hP 0 rfl rfl 17 (by decide) (hts (.fieldLink RX4 34 "LieNightsModel" "readWeight" "[I") (List.mem_of_getElem? (i := 3) rfl)) (fun _ h9 => h9) rfl dX4_readThePillars_61 ?_
          refine lv_aload_n hx hb dX4_readThePillars_64 rfl (lv_at hl 0 rfl) ?_
          refine va_get (D := D) (ci := 4) (v := .int zrp57) (C := RX4) (T := TX4) (N := 23) hx hb hts (fun _ h => List.mem_cons_of_mem _ (List.mem_append_right _ h)) hown hK.1 hP 0 rfl rfl 13 (by decide) (hts (.fieldLink RX4 92 "LieNightsModel" "readPillars" "I") (List.mem_of_getElem? (i := 1) rfl)) (fun _ h9 => h9) rfl dX4_readThePillars_65 ?_
          refine lv_iconst (v := 1) hx hb dX4_readThePillars_68 (by decide) ?_
          refine lv_isub hx hb dX4_readThePillars_69 ?_
          refine va_iald hx hb hK.1 hP 9 0 rfl rfl (by rw [hzrp57]; exact mNat1 hrpk hlt0 (by decide)) dX4_readThePillars_70 ?_
          refine lv_bipush (v := (-9)) hx hb dX4_readThePillars_71 (by decide) ?_
          refine lv_icmp_ne (tgt := 0) hx hb dX4_readThePillars_73 (by decide) (fun c73 => ?_) (fun c73 => ?_)
          · skip
            subst hzrp57
            subst hzxw49
            subst hzax46
            subst hzax27
            have hR4 : sX4_readThePillars_0 ces en k0 wax_0 wrp_0 wxw_0 = (.inl ((fX4_digit (fX4_isSign wax_0 ces en 47).2 ces en 1).2, (wrp_0 + 1), (upd wxw_0 wrp_0.toNatClampNeg ((fX4_digit (fX4_isSign wax_0 ces en 47).2 ces en 1).1)))) := (by unfold sX4_readThePillars_0; rw [if_pos c4, if_neg c30, if_neg c73])
            exact ih0 (k0 + 1) hlt0 (by omega) _ _ _ (lq_next hacc0 hR4) (by rw [hrpk]; exact nI_1 k0) (mDg (mSg hax0 hE) hE) _ _ hP hD hS ls (lv_sub hl [0, 1] rfl)
          refine lv_iconst (v := 0) hx hb dX4_readThePillars_76 (by decide) ?_
          subst hzrp57
          subst hzxw49
          subst hzax46
          subst hzax27
          have hR5 : sX4_readThePillars_0 ces en k0 wax_0 wrp_0 wxw_0 = (.inr (0, (fX4_digit (fX4_isSign wax_0 ces en 47).2 ces en 1).2, (wrp_0 + 1), (upd wxw_0 wrp_0.toNatClampNeg ((fX4_digit (fX4_isSign wax_0 ces en 47).2 ces en 1).1)))) := (by unfold sX4_readThePillars_0; rw [if_pos c4, if_neg c30, if_pos c73])
          have hR6 : (fX4_readThePillars ax rp ces xw en) = (0, (fX4_digit (fX4_isSign wax_0 ces en 47).2 ces en 1).2, (wrp_0 + 1), (upd wxw_0 wrp_0.toNatClampNeg ((fX4_digit (fX4_isSign wax_0 ces en 47).2 ces en 1).1))) := hR1.trans (lq_exit hacc0 hR5 hlt0)
          rw [hQ]
          exact W.zret (v := 0) (ty := .boolean) hx hb hr rfl (fun t ht hW => ⟨⟨_, (), rfl, (by show _ = _; rw [hR6]), (by show va_P D vwCl _ t.heap; rw [hR6, ht]; exact hP)⟩, hS.F ht⟩) hS.2.2 dX4_readThePillars_77
        refine lv_iconst (v := 0) hx hb dX4_readThePillars_33 (by decide) ?_
        subst hzax27
        have hR7 : sX4_readThePillars_0 ces en k0 wax_0 wrp_0 wxw_0 = (.inr (0, (fX4_isSign wax_0 ces en 47).2, wrp_0, wxw_0)) := (by unfold sX4_readThePillars_0; rw [if_pos c4, if_pos c30])
        have hR8 : (fX4_readThePillars ax rp ces xw en) = (0, (fX4_isSign wax_0 ces en 47).2, wrp_0, wxw_0) := hR1.trans (lq_exit hacc0 hR7 hlt0)
        rw [hQ]
        exact W.zret (v := 0) (ty := .boolean) hx hb hr rfl (fun t ht hW => ⟨⟨_, (), rfl, (by show _ = _; rw [hR8]), (by show va_P D vwCl _ t.heap; rw [hR8, ht]; exact hP)⟩, hS.F ht⟩) hS.2.2 dX4_readThePillars_34
      refine lv_aload_n hx hb dX4_readThePillars_7 rfl (lv_at hl 0 rfl) ?_
      refine va_get (D := D) (ci := 4) (v := .int wrp_0) (C := RX4) (T := TX4) (N := 23) hx hb hts (fun _ h => List.mem_cons_of_mem _ (List.mem_append_right _ h)) hown hK.1 hP 0 rfl rfl 13 (by decide) (hts (.fieldLink RX4 92 "LieNightsModel" "readPillars" "I") (List.mem_of_getElem? (i := 1) rfl)) (fun _ h9 => h9) rfl dX4_readThePillars_8 ?_
      refine lv_iconst (v := 5) hx hb dX4_readThePillars_11 (by decide) ?_
      refine lv_icmp_ge (tgt := 78) hx hb dX4_readThePillars_12 (by decide) (fun c12 => ?_) (fun c12 => ?_)
      · skip
        have hkN : k0 = 5 := (kEnd hk0 hrpk rfl (by omega) c12)
        rw [hkN] at hacc0
        have hR9 : (fX4_readThePillars ax rp ces xw en) = aX4_readThePillars_0 en wax_0 wrp_0 wxw_0 := hR1.trans (lq_end (x := (wax_0, wrp_0, wxw_0)) (g := (fun a => aX4_readThePillars_0 en a.1 a.2.1 a.2.2)) hacc0)
        exact aft0 _ _ _ hR9  _ _ hP hD hS ls (lv_sub hl [0, 1] rfl)
      have hlt0 : k0 < 5 := (kLt hk0 hrpk rfl c12)
      refine lv_aload_n hx hb dX4_readThePillars_15 rfl (lv_at hl 0 rfl) ?_
      refine va_get (D := D) (ci := 4) (v := .int wax_0) (C := RX4) (T := TX4) (N := 23) hx hb hts (fun _ h => List.mem_cons_of_mem _ (List.mem_append_right _ h)) hown hK.1 hP 0 rfl rfl 11 (by decide) (hts (.fieldLink RX4 62 "LieNightsModel" "at" "I") (List.mem_of_getElem? (i := 2) rfl)) (fun _ h9 => h9) rfl dX4_readThePillars_16 ?_
      refine lv_iload_n hx hb dX4_readThePillars_19 rfl (lv_at hl 1 rfl) ?_
      refine lv_icmp_ge (tgt := 78) hx hb dX4_readThePillars_20 (by decide) (fun c20 => ?_) (fun c20 => ?_)
      · skip
        have hR10 : sX4_readThePillars_0 ces en k0 wax_0 wrp_0 wxw_0 = (.inr (aX4_readThePillars_0 en wax_0 wrp_0 wxw_0)) := (by unfold sX4_readThePillars_0; rw [if_neg c4, if_pos c20])
        have hR11 : (fX4_readThePillars ax rp ces xw en) = aX4_readThePillars_0 en wax_0 wrp_0 wxw_0 := hR1.trans (lq_exit hacc0 hR10 hlt0)
        exact aft0 _ _ _ hR11  _ _ hP hD hS ls (lv_sub hl [0, 1] rfl)
      have hlt0 : k0 < 5 := by first | exact hlt0 | exact mZk hrpk hk0 c4
      refine lv_aload_n hx hb dX4_readThePillars_23 rfl (lv_at hl 0 rfl) ?_
      refine lv_iload_n hx hb dX4_readThePillars_24 rfl (lv_at hl 1 rfl) ?_
      refine lv_bipush (v := 47) hx hb dX4_readThePillars_25 (by decide) ?_
      refine kMi (wl' := (wMo cI h m1 m2 m3 m4 m5 m6 m7 m8 m9 m10 m11 m12 m13 lf tr an pn gr ((fX4_isSign wax_0 ces en 47).2) ra wrp_0 rg rd so sl ces kd pl wt xk xp wxw_0 wo su ask shw)) (wc := (wMo cI h m1 m2 m3 m4 m5 m6 m7 m8 m9 m10 m11 m12 m13 lf tr an pn gr wax_0 ra wrp_0 rg rd so sl ces kd pl wt xk xp wxw_0 wo su ask shw)) (w1 := (wMo cI h m1 m2 m3 m4 m5 m6 m7 m8 m9 m10 m11 m12 m13 lf tr an pn gr ((fX4_isSign wax_0 ces en 47).2) ra wrp_0 rg rd so sl ces kd pl wt xk xp wxw_0 wo su ask shw)) hP hD hS [0, 1, 2, 3, 4, 5, 6, 7, 8, 9, 10, 11, 12, 13] rfl rfl rfl (va_runV (As := [.int en, .int 47]) (rest := []) ⟨hx, hb, hml, hown, hts⟩ (c_X4_isSign l D cI cS h m1 m2 m3 m4 m5 m6 m7 m8 m9 m10 m11 m12 m13 lf tr an pn gr wax_0 ra wrp_0 rg rd so sl ces kd pl wt xk xp wxw_0 wo su ask shw en 47 hax0 hE) (cwV 2 hts gX4_readThePillars_X4_isSign rfl rfl rfl q_X4_isSign ⟨Nat.le_of_ble_eq_true rfl, Nat.le_of_ble_eq_true rfl⟩) (kMV hK hP hD [0, 1, 2, 3, 4, 5, 6, 7, 8, 9, 10, 11, 12, 13] rfl rfl (va_recv hK.1 hP (ci := 4) (q0 := 0) rfl rfl) [.int en, .int 47]) rfl rfl hl.1 rfl (lv_room (Nat.le_of_ble_eq_true rfl)) dX4_readThePillars_27 ⟨Nat.zero_le _, Nat.zero_le _⟩) (fun H locs hP hD hS => ?_)
      obtain ⟨zax27, hzax27⟩ : ∃ z : Int32, z = (fX4_isSign wax_0 ces en 47).2 := ⟨_, rfl⟩
      rw [← hzax27] at hP hD
      refine lv_if_ne (tgt := 35) hx hb dX4_readThePillars_30 (by decide) (fun c30 => ?_) (fun c30 => ?_)
      · skip
        refine lv_aload_n hx hb dX4_readThePillars_35 rfl (lv_at hl 0 rfl) ?_
        refine va_get (D := D) (ci := 4) (v := .ref m9) (C := RX4) (T := TX4) (N := 23) hx hb hts (fun _ h => List.mem_cons_of_mem _ (List.mem_append_right _ h)) hown hK.1 hP 0 rfl rfl 17 (by decide) (hts (.fieldLink RX4 34 "LieNightsModel" "readWeight" "[I") (List.mem_of_getElem? (i := 3) rfl)) (fun _ h9 => h9) rfl dX4_readThePillars_36 ?_
        refine lv_aload_n hx hb dX4_readThePillars_39 rfl (lv_at hl 0 rfl) ?_
        refine va_get (D := D) (ci := 4) (v := .int wrp_0) (C := RX4) (T := TX4) (N := 23) hx hb hts (fun _ h => List.mem_cons_of_mem _ (List.mem_append_right _ h)) hown hK.1 hP 0 rfl rfl 13 (by decide) (hts (.fieldLink RX4 92 "LieNightsModel" "readPillars" "I") (List.mem_of_getElem? (i := 1) rfl)) (fun _ h9 => h9) rfl dX4_readThePillars_40 ?_
        refine lv_aload_n hx hb dX4_readThePillars_43 rfl (lv_at hl 0 rfl) ?_
        refine lv_iload_n hx hb dX4_readThePillars_44 rfl (lv_at hl 1 rfl) ?_
        refine lv_iconst (v := 1) hx hb dX4_readThePillars_45 (by decide) ?_
        refine kMi (wl' := (wMo cI h m1 m2 m3 m4 m5 m6 m7 m8 m9 m10 m11 m12 m13 lf tr an pn gr ((fX4_digit zax27 ces en 1).2) ra wrp_0 rg rd so sl ces kd pl wt xk xp wxw_0 wo su ask shw)) (wc := (wMo cI h m1 m2 m3 m4 m5 m6 m7 m8 m9 m10 m11 m12 m13 lf tr an pn gr zax27 ra wrp_0 rg rd so sl ces kd pl wt xk xp wxw_0 wo su ask shw)) (w1 := (wMo cI h m1 m2 m3 m4 m5 m6 m7 m8 m9 m10 m11 m12 m13 lf tr an pn gr ((fX4_digit zax27 ces en 1).2) ra wrp_0 rg rd so sl ces kd pl wt xk xp wxw_0 wo su ask shw)) hP hD hS [0, 1, 2, 3, 4, 5, 6, 7, 8, 9, 10, 11, 12, 13] rfl rfl rfl (va_runV (As := [.int en, .int 1]) (rest := [.int wrp_0, .ref m9]) ⟨hx, hb, hml, hown, hts⟩ (c_X4_digit l D cI cS h m1 m2 m3 m4 m5 m6 m7 m8 m9 m10 m11 m12 m13 lf tr an pn gr zax27 ra wrp_0 rg rd so sl ces kd pl wt xk xp wxw_0 wo su ask shw en 1 (by rw [hzax27]; exact mSg hax0 hE) hE) (cwV 2 hts gX4_readThePillars_X4_digit rfl rfl rfl q_X4_digit ⟨Nat.le_of_ble_eq_true rfl, Nat.le_of_ble_eq_true rfl⟩) (kMV hK hP hD [0, 1, 2, 3, 4, 5, 6, 7, 8, 9, 10, 11, 12, 13] rfl rfl (va_recv hK.1 hP (ci := 4) (q0 := 0) rfl rfl) [.int en, .int 1]) rfl rfl hl.1 rfl (lv_room (Nat.le_of_ble_eq_true rfl)) dX4_readThePillars_46 ⟨Nat.zero_le _, Nat.zero_le _⟩) (fun H locs hP hD hS => ?_)
        obtain ⟨zax46, hzax46⟩ : ∃ z : Int32, z = (fX4_digit zax27 ces en 1).2 := ⟨_, rfl⟩
        rw [← hzax46] at hP hD
        refine va_iast hx hb hK.1 hP hD hS 9 0 rfl rfl (mNat hrpk hlt0 (by decide)) dX4_readThePillars_49 (fun H locs hP hD hS => ?_)
        have hP : va_P D vwCl (wMo cI h m1 m2 m3 m4 m5 m6 m7 m8 m9 m10 m11 m12 m13 lf tr an pn gr zax46 ra wrp_0 rg rd so sl ces kd pl wt xk xp (upd wxw_0 wrp_0.toNatClampNeg ((fX4_digit zax27 ces en 1).1)) wo su ask shw) H := hP
        have hD : va_D A (wMo cI h m1 m2 m3 m4 m5 m6 m7 m8 m9 m10 m11 m12 m13 lf tr an pn gr zax46 ra wrp_0 rg rd so sl ces kd pl wt xk xp (upd wxw_0 wrp_0.toNatClampNeg ((fX4_digit zax27 ces en 1).1)) wo su ask shw) := hD
        obtain ⟨zxw49, hzxw49⟩ : ∃ z : Nat → Int32, z = (upd wxw_0 wrp_0.toNatClampNeg ((fX4_digit zax27 ces en 1).1)) := ⟨_, rfl⟩
        rw [← hzxw49] at hP hD
        refine lv_aload_n hx hb dX4_readThePillars_50 rfl (lv_at hl 0 rfl) ?_
        refine lv_dup hx hb dX4_readThePillars_51 rfl ?_
        refine va_get (D := D) (ci := 4) (v := .int wrp_0) (C := RX4) (T := TX4) (N := 23) hx hb hts (fun _ h => List.mem_cons_of_mem _ (List.mem_append_right _ h)) hown hK.1 hP 0 rfl rfl 13 (by decide) (hts (.fieldLink RX4 92 "LieNightsModel" "readPillars" "I") (List.mem_of_getElem? (i := 1) rfl)) (fun _ h9 => h9) rfl dX4_readThePillars_52 ?_
        refine lv_iconst (v := 1) hx hb dX4_readThePillars_55 (by decide) ?_
        refine lv_iadd hx hb dX4_readThePillars_56 ?_
        refine va_put (D := D) (ci := 4) (v := .int (wrp_0 + 1)) (ty := tyX4 13) (C := RX4) (T := TX4) (N := 23) hx hb hts (fun _ h => List.mem_cons_of_mem _ (List.mem_append_right _ h)) tyX4 tyX4_ok nmX4 hown hK.1 hP hD hS 0 rfl rfl 13 (by decide) (hts (.fieldLink RX4 92 "LieNightsModel" "readPillars" "I") (List.mem_of_getElem? (i := 1) rfl)) (fun _ h9 => h9) rfl (tyX4_ok 13 (by decide)) rfl rfl (Nat.le_of_ble_eq_true rfl) dX4_readThePillars_57 (fun H locs hP hD hS => ?_)
        have hP : va_P D vwCl (wMo cI h m1 m2 m3 m4 m5 m6 m7 m8 m9 m10 m11 m12 m13 lf tr an pn gr zax46 ra (wrp_0 + 1) rg rd so sl ces kd pl wt xk xp zxw49 wo su ask shw) H := hP
        have hD : va_D A (wMo cI h m1 m2 m3 m4 m5 m6 m7 m8 m9 m10 m11 m12 m13 lf tr an pn gr zax46 ra (wrp_0 + 1) rg rd so sl ces kd pl wt xk xp zxw49 wo su ask shw) := hD
        obtain ⟨zrp57, hzrp57⟩ : ∃ z : Int32, z = (wrp_0 + 1) := ⟨_, rfl⟩
        rw [← hzrp57] at hP hD
        refine lv_aload_n hx hb dX4_readThePillars_60 rfl (lv_at hl 0 rfl) ?_
        refine va_get (D := D) (ci := 4) (v := .ref m9) (C := RX4) (T := TX4) (N := 23) hx hb hts (fun _ h => List.mem_cons_of_mem _ (List.mem_append_right _ h)) hown hK.1 hP 0 rfl rfl 17 (by decide) (hts (.fieldLink RX4 34 "LieNightsModel" "readWeight" "[I") (List.mem_of_getElem? (i := 3) rfl)) (fun _ h9 => h9) rfl dX4_readThePillars_61 ?_
        refine lv_aload_n hx hb dX4_readThePillars_64 rfl (lv_at hl 0 rfl) ?_
        refine va_get (D := D) (ci := 4) (v := .int zrp57) (C := RX4) (T := TX4) (N := 23) hx hb hts (fun _ h => List.mem_cons_of_mem _ (List.mem_append_right _ h)) hown hK.1 hP 0 rfl rfl 13 (by decide) (hts (.fieldLink RX4 92 "LieNightsModel" "readPillars" "I") (List.mem_of_getElem? (i := 1) rfl)) (fun _ h9 => h9) rfl dX4_readThePillars_65 ?_
        refine lv_iconst (v := 1) hx hb dX4_readThePillars_68 (by decide) ?_
        refine lv_isub hx hb dX4_readThePillars_69 ?_
        refine va_iald hx hb hK.1 hP 9 0 rfl rfl (by rw [hzrp57]; exact mNat1 hrpk hlt0 (by decide)) dX4_readThePillars_70 ?_
        refine lv_bipush (v := (-9)) hx hb dX4_readThePillars_71 (by decide) ?_
        refine lv_icmp_ne (tgt := 0) hx hb dX4_readThePillars_73 (by decide) (fun c73 => ?_) (fun c73 => ?_)
        · skip
          subst hzrp57
          subst hzxw49
          subst hzax46
          subst hzax27
          have hR12 : sX4_readThePillars_0 ces en k0 wax_0 wrp_0 wxw_0 = (.inl ((fX4_digit (fX4_isSign wax_0 ces en 47).2 ces en 1).2, (wrp_0 + 1), (upd wxw_0 wrp_0.toNatClampNeg ((fX4_digit (fX4_isSign wax_0 ces en 47).2 ces en 1).1)))) := (by unfold sX4_readThePillars_0; rw [if_neg c4, if_neg c20, if_neg c30, if_neg c73])
          exact ih0 (k0 + 1) hlt0 (by omega) _ _ _ (lq_next hacc0 hR12) (by rw [hrpk]; exact nI_1 k0) (mDg (mSg hax0 hE) hE) _ _ hP hD hS ls (lv_sub hl [0, 1] rfl)
        refine lv_iconst (v := 0) hx hb dX4_readThePillars_76 (by decide) ?_
        subst hzrp57
        subst hzxw49
        subst hzax46
        subst hzax27
        have hR13 : sX4_readThePillars_0 ces en k0 wax_0 wrp_0 wxw_0 = (.inr (0, (fX4_digit (fX4_isSign wax_0 ces en 47).2 ces en 1).2, (wrp_0 + 1), (upd wxw_0 wrp_0.toNatClampNeg ((fX4_digit (fX4_isSign wax_0 ces en 47).2 ces en 1).1)))) := (by unfold sX4_readThePillars_0; rw [if_neg c4, if_neg c20, if_neg c30, if_pos c73])
        have hR14 : (fX4_readThePillars ax rp ces xw en) = (0, (fX4_digit (fX4_isSign wax_0 ces en 47).2 ces en 1).2, (wrp_0 + 1), (upd wxw_0 wrp_0.toNatClampNeg ((fX4_digit (fX4_isSign wax_0 ces en 47).2 ces en 1).1))) := hR1.trans (lq_exit hacc0 hR13 hlt0)
        rw [hQ]
        exact W.zret (v := 0) (ty := .boolean) hx hb hr rfl (fun t ht hW => ⟨⟨_, (), rfl, (by show _ = _; rw [hR14]), (by show va_P D vwCl _ t.heap; rw [hR14, ht]; exact hP)⟩, hS.F ht⟩) hS.2.2 dX4_readThePillars_77
      refine lv_iconst (v := 0) hx hb dX4_readThePillars_33 (by decide) ?_
      subst hzax27
      have hR15 : sX4_readThePillars_0 ces en k0 wax_0 wrp_0 wxw_0 = (.inr (0, (fX4_isSign wax_0 ces en 47).2, wrp_0, wxw_0)) := (by unfold sX4_readThePillars_0; rw [if_neg c4, if_neg c20, if_pos c30])
      have hR16 : (fX4_readThePillars ax rp ces xw en) = (0, (fX4_isSign wax_0 ces en 47).2, wrp_0, wxw_0) := hR1.trans (lq_exit hacc0 hR15 hlt0)
      rw [hQ]
      exact W.zret (v := 0) (ty := .boolean) hx hb hr rfl (fun t ht hW => ⟨⟨_, (), rfl, (by show _ = _; rw [hR16]), (by show va_P D vwCl _ t.heap; rw [hR16, ht]; exact hP)⟩, hS.F ht⟩) hS.2.2 dX4_readThePillars_34
  exact loop0 (5 + 1) 0 (Nat.zero_le _) (by omega) _ _ _ rfl (hrp.trans rfl) hax _ _ hP hD hS ls (lv_sub hl [0, 1] rfl)