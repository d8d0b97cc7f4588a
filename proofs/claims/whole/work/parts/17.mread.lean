def aX4_readSecret_50 (rg : Int32) (ces xw : Nat → Int32) (en wax_50 wra_50 : Int32) (wxk_50 wxp_50 : Nat → Int32) : (Int32 × Int32 × Int32 × Int32 × Int32 × (Nat → Int32) × (Nat → Int32) × (Nat → Int32)) := (if (fX4_isSign wax_50 ces en 59).1 = 0 then (0, (fX4_isSign wax_50 ces en 59).2, wra_50, 0, rg, wxk_50, wxp_50, xw) else (if (fX4_digit (fX4_isSign wax_50 ces en 59).2 ces en 0).1 = (-9) then (0, (fX4_digit (fX4_isSign wax_50 ces en 59).2 ces en 0).2, wra_50, 0, (fX4_digit (fX4_isSign wax_50 ces en 59).2 ces en 0).1, wxk_50, wxp_50, xw) else (if (fX4_readThePillars (fX4_digit (fX4_isSign wax_50 ces en 59).2 ces en 0).2 0 ces xw en).1 = 0 then (0, (fX4_readThePillars (fX4_digit (fX4_isSign wax_50 ces en 59).2 ces en 0).2 0 ces xw en).2.1, wra_50, (fX4_readThePillars (fX4_digit (fX4_isSign wax_50 ces en 59).2 ces en 0).2 0 ces xw en).2.2.1, (fX4_digit (fX4_isSign wax_50 ces en 59).2 ces en 0).1, wxk_50, wxp_50, (fX4_readThePillars (fX4_digit (fX4_isSign wax_50 ces en 59).2 ces en 0).2 0 ces xw en).2.2.2) else (1, (fX4_readThePillars (fX4_digit (fX4_isSign wax_50 ces en 59).2 ces en 0).2 0 ces xw en).2.1, wra_50, (fX4_readThePillars (fX4_digit (fX4_isSign wax_50 ces en 59).2 ces en 0).2 0 ces xw en).2.2.1, (fX4_digit (fX4_isSign wax_50 ces en 59).2 ces en 0).1, wxk_50, wxp_50, (fX4_readThePillars (fX4_digit (fX4_isSign wax_50 ces en 59).2 ces en 0).2 0 ces xw en).2.2.2))))
def sX4_readSecret_50 (rg : Int32) (ces xw : Nat → Int32) (en : Int32) (k50 : Nat) (wax_50 wra_50 : Int32) (wxk_50 wxp_50 : Nat → Int32) : (Int32 × Int32 × (Nat → Int32) × (Nat → Int32)) ⊕ (Int32 × Int32 × Int32 × Int32 × Int32 × (Nat → Int32) × (Nat → Int32) × (Nat → Int32)) := (if (fX4_isSign wax_50 ces en 44).1 = 0 then (.inr (aX4_readSecret_50 rg ces xw en ((fX4_isSign wax_50 ces en 44).2) wra_50 wxk_50 wxp_50)) else (if (fX4_readAnswer (fX4_isSign wax_50 ces en 44).2 wra_50 ces wxk_50 wxp_50 en).1 = 0 then (.inr (0, (fX4_readAnswer (fX4_isSign wax_50 ces en 44).2 wra_50 ces wxk_50 wxp_50 en).2.1, (fX4_readAnswer (fX4_isSign wax_50 ces en 44).2 wra_50 ces wxk_50 wxp_50 en).2.2.1, 0, rg, (fX4_readAnswer (fX4_isSign wax_50 ces en 44).2 wra_50 ces wxk_50 wxp_50 en).2.2.2.1, (fX4_readAnswer (fX4_isSign wax_50 ces en 44).2 wra_50 ces wxk_50 wxp_50 en).2.2.2.2, xw)) else (.inl ((fX4_readAnswer (fX4_isSign wax_50 ces en 44).2 wra_50 ces wxk_50 wxp_50 en).2.1, (fX4_readAnswer (fX4_isSign wax_50 ces en 44).2 wra_50 ces wxk_50 wxp_50 en).2.2.1, (fX4_readAnswer (fX4_isSign wax_50 ces en 44).2 wra_50 ces wxk_50 wxp_50 en).2.2.2.1, (fX4_readAnswer (fX4_isSign wax_50 ces en 44).2 wra_50 ces wxk_50 wxp_50 en).2.2.2.2))))
def aX4_readSecret_22 (rg : Int32) (ces xw : Nat → Int32) (en wax_22 wra_22 : Int32) (wxk_22 wxp_22 : Nat → Int32) : (Int32 × Int32 × Int32 × Int32 × Int32 × (Nat → Int32) × (Nat → Int32) × (Nat → Int32)) := (lqr (lq (fun k a => sX4_readSecret_50 rg ces xw en k a.1 a.2.1 a.2.2.1 a.2.2.2) (wax_22, wra_22, wxk_22, wxp_22) (6 - 2)) (fun a => aX4_readSecret_50 rg ces xw en a.1 a.2.1 a.2.2.1 a.2.2.2))
def sX4_readSecret_22 (rg : Int32) (ces xw : Nat → Int32) (en : Int32) (k22 : Nat) (wax_22 wra_22 : Int32) (wxk_22 wxp_22 : Nat → Int32) : (Int32 × Int32 × (Nat → Int32) × (Nat → Int32)) ⊕ (Int32 × Int32 × Int32 × Int32 × Int32 × (Nat → Int32) × (Nat → Int32) × (Nat → Int32)) := (if (fX4_isSign wax_22 ces en 44).1 = 0 then (.inr (0, (fX4_isSign wax_22 ces en 44).2, wra_22, 0, rg, wxk_22, wxp_22, xw)) else (if (fX4_readAnswer (fX4_isSign wax_22 ces en 44).2 wra_22 ces wxk_22 wxp_22 en).1 = 0 then (.inr (0, (fX4_readAnswer (fX4_isSign wax_22 ces en 44).2 wra_22 ces wxk_22 wxp_22 en).2.1, (fX4_readAnswer (fX4_isSign wax_22 ces en 44).2 wra_22 ces wxk_22 wxp_22 en).2.2.1, 0, rg, (fX4_readAnswer (fX4_isSign wax_22 ces en 44).2 wra_22 ces wxk_22 wxp_22 en).2.2.2.1, (fX4_readAnswer (fX4_isSign wax_22 ces en 44).2 wra_22 ces wxk_22 wxp_22 en).2.2.2.2, xw)) else (.inl ((fX4_readAnswer (fX4_isSign wax_22 ces en 44).2 wra_22 ces wxk_22 wxp_22 en).2.1, (fX4_readAnswer (fX4_isSign wax_22 ces en 44).2 wra_22 ces wxk_22 wxp_22 en).2.2.1, (fX4_readAnswer (fX4_isSign wax_22 ces en 44).2 wra_22 ces wxk_22 wxp_22 en).2.2.2.1, (fX4_readAnswer (fX4_isSign wax_22 ces en 44).2 wra_22 ces wxk_22 wxp_22 en).2.2.2.2))))
def fX4_readSecret (ax rg : Int32) (ces xk xp xw : Nat → Int32) (en : Int32) : Int32 × Int32 × Int32 × Int32 × Int32 × (Nat → Int32) × (Nat → Int32) × (Nat → Int32) := (if (fX4_isSign ax ces en 97).1 = 0 then (0, (fX4_isSign ax ces en 97).2, 0, 0, rg, xk, xp, xw) else (lqr (lq (fun k a => sX4_readSecret_22 rg ces xw en k a.1 a.2.1 a.2.2.1 a.2.2.2) ((fX4_isSign ax ces en 97).2, 0, xk, xp) 2) (fun a => aX4_readSecret_22 rg ces xw en a.1 a.2.1 a.2.2.1 a.2.2.2)))
theorem q_X4_readSecret : yX4_readSecret.cls = RX4 ∧ yX4_readSecret.cls ≠ "java/lang/invoke/MethodHandle" ∧ yX4_readSecret.cls ≠ "java/lang/invoke/VarHandle" ∧ (parseMethodDescriptor yX4_readSecret.desc).map (fun d => d.parameters.length) = some 1 := by decide +kernel
set_option maxHeartbeats 4000000 in
set_option maxRecDepth 100000 in
theorem c_X4_readSecret (l : Launch) (D : va_G) (cI cS : ClassId) (h m1 m2 m3 m4 m5 m6 m7 m8 m9 m10 m11 m12 m13 : Nat) (lf tr an pn gr ax ra rp rg rd : Int32) (so sl ces kd pl wt xk xp xw wo su ask shw : Nat → Int32) (en : Int32) (hax : ¬ ax < 0) (hE : en ≤ 240) : MMi l yX4_readSecret wsX4_readSecret { frames := 3, cells := 0, slots := 0, locals := 66 } D cI cS (wMo cI h m1 m2 m3 m4 m5 m6 m7 m8 m9 m10 m11 m12 m13 lf tr an pn gr ax ra rp rg rd so sl ces kd pl wt xk xp xw wo su ask shw) [.ref h, .int en] ((fX4_readSecret ax rg ces xk xp xw en).1) (wMo cI h m1 m2 m3 m4 m5 m6 m7 m8 m9 m10 m11 m12 m13 lf tr an pn gr ((fX4_readSecret ax rg ces xk xp xw en).2.1) ((fX4_readSecret ax rg ces xk xp xw en).2.2.1) ((fX4_readSecret ax rg ces xk xp xw en).2.2.2.1) ((fX4_readSecret ax rg ces xk xp xw en).2.2.2.2.1) rd so sl ces kd pl wt ((fX4_readSecret ax rg ces xk xp xw en).2.2.2.2.2.1) ((fX4_readSecret ax rg ces xk xp xw en).2.2.2.2.2.2.1) ((fX4_readSecret ax rg ces xk xp xw en).2.2.2.2.2.2.2) wo su ask shw) := by
  refine kEnterM (cc := cX4_readSecret) (maxL := 2) (ret := (some .boolean)) (by decide) rfl (Nat.le_of_ble_eq_true rfl) ?_
  intro p e s m below meth c ls Qf hQ hx hb hml hr hlocks hown hts hK hP hD hS hl
  have hown : s.vm.findClass RX4 = some m.cls := hown
  have hl : lv_has ls 2 [(0, .ref h), (1, .int en)] := hl
  generalize kA (wMo cI h m1 m2 m3 m4 m5 m6 m7 m8 m9 m10 m11 m12 m13 lf tr an pn gr ax ra rp rg rd so sl ces kd pl wt xk xp xw wo su ask shw) = A at hQ hD hS
  refine lv_aload_n hx hb dX4_readSecret_0 rfl (lv_at hl 0 rfl) ?_
  refine lv_iconst (v := 0) hx hb dX4_readSecret_1 (by decide) ?_
  refine va_put (D := D) (ci := 4) (v := .int 0) (ty := tyX4 12) (C := RX4) (T := TX4) (N := 23) hx hb hts (fun _ h => List.mem_cons_of_mem _ (List.mem_append_right _ h)) tyX4 tyX4_ok nmX4 hown hK.1 hP hD hS 0 rfl rfl 12 (by decide) (hts (.fieldLink RX4 83 "LieNightsModel" "readAnswers" "I") (List.mem_of_getElem? (i := 1) rfl)) (fun _ h9 => h9) rfl (tyX4_ok 12 (by decide)) rfl rfl (Nat.le_of_ble_eq_true rfl) dX4_readSecret_2 (fun H locs hP hD hS => ?_)
  have hP : va_P D vwCl (wMo cI h m1 m2 m3 m4 m5 m6 m7 m8 m9 m10 m11 m12 m13 lf tr an pn gr ax 0 rp rg rd so sl ces kd pl wt xk xp xw wo su ask shw) H := hP
  have hD : va_D A (wMo cI h m1 m2 m3 m4 m5 m6 m7 m8 m9 m10 m11 m12 m13 lf tr an pn gr ax 0 rp rg rd so sl ces kd pl wt xk xp xw wo su ask shw) := hD
  refine lv_aload_n hx hb dX4_readSecret_5 rfl (lv_at hl 0 rfl) ?_
  refine lv_iconst (v := 0) hx hb dX4_readSecret_6 (by decide) ?_
  refine va_put (D := D) (ci := 4) (v := .int 0) (ty := tyX4 13) (C := RX4) (T := TX4) (N := 23) hx hb hts (fun _ h => List.mem_cons_of_mem _ (List.mem_append_right _ h)) tyX4 tyX4_ok nmX4 hown hK.1 hP hD hS 0 rfl rfl 13 (by decide) (hts (.fieldLink RX4 92 "LieNightsModel" "readPillars" "I") (List.mem_of_getElem? (i := 2) rfl)) (fun _ h9 => h9) rfl (tyX4_ok 13 (by decide)) rfl rfl (Nat.le_of_ble_eq_true rfl) dX4_readSecret_7 (fun H locs hP hD hS => ?_)
  have hP : va_P D vwCl (wMo cI h m1 m2 m3 m4 m5 m6 m7 m8 m9 m10 m11 m12 m13 lf tr an pn gr ax 0 0 rg rd so sl ces kd pl wt xk xp xw wo su ask shw) H := hP
  have hD : va_D A (wMo cI h m1 m2 m3 m4 m5 m6 m7 m8 m9 m10 m11 m12 m13 lf tr an pn gr ax 0 0 rg rd so sl ces kd pl wt xk xp xw wo su ask shw) := hD
  refine lv_aload_n hx hb dX4_readSecret_10 rfl (lv_at hl 0 rfl) ?_
  refine lv_iload_n hx hb dX4_readSecret_11 rfl (lv_at hl 1 rfl) ?_
  refine lv_bipush (v := 97) hx hb dX4_readSecret_12 (by decide) ?_
  refine kMi (wl' := (wMo cI h m1 m2 m3 m4 m5 m6 m7 m8 m9 m10 m11 m12 m13 lf tr an pn gr ((fX4_isSign ax ces en 97).2) 0 0 rg rd so sl ces kd pl wt xk xp xw wo su ask shw)) (wc := (wMo cI h m1 m2 m3 m4 m5 m6 m7 m8 m9 m10 m11 m12 m13 lf tr an pn gr ax 0 0 rg rd so sl ces kd pl wt xk xp xw wo su ask shw)) (w1 := (wMo cI h m1 m2 m3 m4 m5 m6 m7 m8 m9 m10 m11 m12 m13 lf tr an pn gr ((fX4_isSign ax ces en 97).2) 0 0 rg rd so sl ces kd pl wt xk xp xw wo su ask shw)) hP hD hS [0, 1, 2, 3, 4, 5, 6, 7, 8, 9, 10, 11, 12, 13] rfl rfl rfl (va_runV (As := [.int en, .int 97]) (rest := []) ⟨hx, hb, hml, hown, hts⟩ (c_X4_isSign l D cI cS h m1 m2 m3 m4 m5 m6 m7 m8 m9 m10 m11 m12 m13 lf tr an pn gr ax 0 0 rg rd so sl ces kd pl wt xk xp xw wo su ask shw en 97 hax hE) (cwV 2 hts gX4_readSecret_X4_isSign rfl rfl rfl q_X4_isSign ⟨Nat.le_of_ble_eq_true rfl, Nat.le_of_ble_eq_true rfl⟩) (kMV hK hP hD [0, 1, 2, 3, 4, 5, 6, 7, 8, 9, 10, 11, 12, 13] rfl rfl (va_recv hK.1 hP (ci := 4) (q0 := 0) rfl rfl) [.int en, .int 97]) rfl rfl hl.1 rfl (lv_room (Nat.le_of_ble_eq_true rfl)) dX4_readSecret_14 ⟨Nat.zero_le _, Nat.zero_le _⟩) (fun H locs hP hD hS => ?_)
  obtain ⟨zax14, hzax14⟩ : ∃ z : Int32, z = (fX4_isSign ax ces en 97).2 := ⟨_, rfl⟩
  rw [← hzax14] at hP hD
  refine lv_if_ne (tgt := 22) hx hb dX4_readSecret_17 (by decide) (fun c17 => ?_) (fun c17 => ?_)
  · skip
    subst hzax14
    have hR1 : (fX4_readSecret ax rg ces xk xp xw en) = (lqr (lq (fun k a => sX4_readSecret_22 rg ces xw en k a.1 a.2.1 a.2.2.1 a.2.2.2) ((fX4_isSign ax ces en 97).2, 0, xk, xp) 2) (fun a => aX4_readSecret_22 rg ces xw en a.1 a.2.1 a.2.2.1 a.2.2.2)) := (by unfold fX4_readSecret; rw [if_neg c17])
    have loop22 : ∀ (n k22 : Nat), k22 ≤ 2 → 2 + 1 ≤ k22 + n → ∀ (wax_22 : Int32) (wra_22 : Int32) (wxk_22 : Nat → Int32) (wxp_22 : Nat → Int32), lq (fun k a => sX4_readSecret_22 rg ces xw en k a.1 a.2.1 a.2.2.1 a.2.2.2) ((fX4_isSign ax ces en 97).2, 0, xk, xp) k22 = Sum.inl (wax_22, wra_22, wxk_22, wxp_22) → wra_22 = nI k22 → ¬ wax_22 < 0 → ∀ (H : Heap) (locs : List Loc), va_P D vwCl (wMo cI h m1 m2 m3 m4 m5 m6 m7 m8 m9 m10 m11 m12 m13 lf tr an pn gr wax_22 wra_22 0 rg rd so sl ces kd pl wt wxk_22 wxp_22 xw wo su ask shw) H → va_D A (wMo cI h m1 m2 m3 m4 m5 m6 m7 m8 m9 m10 m11 m12 m13 lf tr an pn gr wax_22 wra_22 0 rg rd so sl ces kd pl wt wxk_22 wxp_22 xw wo su ask shw) → va_S A s.heap H locs → ∀ (ls : Array Slot), lv_has ls 2 [(0, .ref h), (1, .int en)] → W p l e { frames := 3, cells := 0, slots := 0, locals := 66 } s m ([.ref h, .int en] : List Value).toArray below meth c H locs 0 0 Qf (F0 m 22 ls []) := by
      intro n
      induction n with
      | zero => intro k22 h1 h2; exact absurd h2 (by omega)
      | succ n ih =>
        intro k22 hk22 hn22 wax_22 wra_22 wxk_22 wxp_22 hacc22 hra22 hax22 H locs hP hD hS ls hl
        have ih22 := ih
        refine lv_aload_n hx hb dX4_readSecret_22 rfl (lv_at hl 0 rfl) ?_
        refine va_get (D := D) (ci := 4) (v := .int wra_22) (C := RX4) (T := TX4) (N := 23) hx hb hts (fun _ h => List.mem_cons_of_mem _ (List.mem_append_right _ h)) hown hK.1 hP 0 rfl rfl 12 (by decide) (hts (.fieldLink RX4 83 "LieNightsModel" "readAnswers" "I") (List.mem_of_getElem? (i := 1) rfl)) (fun _ h9 => h9) rfl dX4_readSecret_23 ?_
        refine lv_iconst (v := 2) hx hb dX4_readSecret_26 (by decide) ?_
        refine lv_icmp_ge (tgt := 50) hx hb dX4_readSecret_27 (by decide) (fun c27 => ?_) (fun c27 => ?_)
        · skip
          have hkN : k22 = 2 := (kEnd hk22 hra22 rfl (by omega) c27)
          rw [hkN] at hacc22
          have hR2 : (fX4_readSecret ax rg ces xk xp xw en) = aX4_readSecret_22 rg ces xw en wax_22 wra_22 wxk_22 wxp_22 := hR1.trans (lq_end (x := (wax_22, wra_22, wxk_22, wxp_22)) (g := (fun a => aX4_readSecret_22 rg ces xw en a.1 a.2.1 a.2.2.1 a.2.2.2)) hacc22)
          have hR3 : (fX4_readSecret ax rg ces xk xp xw en) = (lqr (lq (fun k a => sX4_readSecret_50 rg ces xw en k a.1 a.2.1 a.2.2.1 a.2.2.2) (wax_22, wra_22, wxk_22, wxp_22) (6 - 2)) (fun a => aX4_readSecret_50 rg ces xw en a.1 a.2.1 a.2.2.1 a.2.2.2)) := hR2.trans rfl
          have aft50 : ∀ (wax_50 : Int32) (wra_50 : Int32) (wxk_50 : Nat → Int32) (wxp_50 : Nat → Int32), (fX4_readSecret ax rg ces xk xp xw en) = aX4_readSecret_50 rg ces xw en wax_50 wra_50 wxk_50 wxp_50 → ¬ wax_50 < 0 → ∀ (H : Heap) (locs : List Loc), va_P D vwCl (wMo cI h m1 m2 m3 m4 m5 m6 m7 m8 m9 m10 m11 m12 m13 lf tr an pn gr wax_50 wra_50 0 rg rd so sl ces kd pl wt wxk_50 wxp_50 xw wo su ask shw) H → va_D A (wMo cI h m1 m2 m3 m4 m5 m6 m7 m8 m9 m10 m11 m12 m13 lf tr an pn gr wax_50 wra_50 0 rg rd so sl ces kd pl wt wxk_50 wxp_50 xw wo su ask shw) → va_S A s.heap H locs → ∀ (ls : Array Slot), lv_has ls 2 [(0, .ref h), (1, .int en)] → W p l e { frames := 3, cells := 0, slots := 0, locals := 66 } s m ([.ref h, .int en] : List Value).toArray below meth c H locs 0 0 Qf (F0 m 79 ls []) := by
            intro wax_50 wra_50 wxk_50 wxp_50 hRa50 haxA H locs hP hD hS ls hl
            refine lv_aload_n hx hb dX4_readSecret_79 rfl (lv_at hl 0 rfl) ?_
            refine lv_iload_n hx hb dX4_readSecret_80 rfl (lv_at hl 1 rfl) ?_
            refine lv_bipush (v := 59) hx hb dX4_readSecret_81 (by decide) ?_
            refine kMi (wl' := (wMo cI h m1 m2 m3 m4 m5 m6 m7 m8 m9 m10 m11 m12 m13 lf tr an pn gr ((fX4_isSign wax_50 ces en 59).2) wra_50 0 rg rd so sl ces kd pl wt wxk_50 wxp_50 xw wo su ask shw)) (wc := (wMo cI h m1 m2 m3 m4 m5 m6 m7 m8 m9 m10 m11 m12 m13 lf tr an pn gr wax_50 wra_50 0 rg rd so sl ces kd pl wt wxk_50 wxp_50 xw wo su ask shw)) (w1 := (wMo cI h m1 m2 m3 m4 m5 m6 m7 m8 m9 m10 m11 m12 m13 lf tr an pn gr ((fX4_isSign wax_50 ces en 59).2) wra_50 0 rg rd so sl ces kd pl wt wxk_50 wxp_50 xw wo su ask shw)) hP hD hS [0, 1, 2, 3, 4, 5, 6, 7, 8, 9, 10, 11, 12, 13] rfl rfl rfl (va_runV (As := [.int en, .int 59]) (rest := []) ⟨hx, hb, hml, hown, hts⟩ (c_X4_isSign l D cI cS h m1 m2 m3 m4 m5 m6 m7 m8 m9 m10 m11 m12 m13 lf tr an pn gr wax_50 wra_50 0 rg rd so sl ces kd pl wt wxk_50 wxp_50 xw wo su ask shw en 59 haxA hE) (cwV 2 hts gX4_readSecret_X4_isSign rfl rfl rfl q_X4_isSign ⟨Nat.le_of_ble_eq_true rfl, Nat.le_of_ble_eq_true rfl⟩) (kMV hK hP hD [0, 1, 2, 3, 4, 5, 6, 7, 8, 9, 10, 11, 12, 13] rfl rfl (va_recv hK.1 hP (ci := 4) (q0 := 0) rfl rfl) [.int en, .int 59]) rfl rfl hl.1 rfl (lv_room (Nat.le_of_ble_eq_true rfl)) dX4_readSecret_83 ⟨Nat.zero_le _, Nat.zero_le _⟩) (fun H locs hP hD hS => ?_)
            obtain ⟨zax83, hzax83⟩ : ∃ z : Int32, z = (fX4_isSign wax_50 ces en 59).2 := ⟨_, rfl⟩
            rw [← hzax83] at hP hD
            refine lv_if_ne (tgt := 91) hx hb dX4_readSecret_86 (by decide) (fun c86 => ?_) (fun c86 => ?_)
            · skip
              refine lv_aload_n hx hb dX4_readSecret_91 rfl (lv_at hl 0 rfl) ?_
              refine lv_aload_n hx hb dX4_readSecret_92 rfl (lv_at hl 0 rfl) ?_
              refine lv_iload_n hx hb dX4_readSecret_93 rfl (lv_at hl 1 rfl) ?_
              refine lv_iconst (v := 0) hx hb dX4_readSecret_94 (by decide) ?_
              refine kMi (wl' := (wMo cI h m1 m2 m3 m4 m5 m6 m7 m8 m9 m10 m11 m12 m13 lf tr an pn gr ((fX4_digit zax83 ces en 0).2) wra_50 0 rg rd so sl ces kd pl wt wxk_50 wxp_50 xw wo su ask shw)) (wc := (wMo cI h m1 m2 m3 m4 m5 m6 m7 m8 m9 m10 m11 m12 m13 lf tr an pn gr zax83 wra_50 0 rg rd so sl ces kd pl wt wxk_50 wxp_50 xw wo su ask shw)) (w1 := (wMo cI h m1 m2 m3 m4 m5 m6 m7 m8 m9 m10 m11 m12 m13 lf tr an pn gr ((fX4_digit zax83 ces en 0).2) wra_50 0 rg rd so sl ces kd pl wt wxk_50 wxp_50 xw wo su ask shw)) hP hD hS [0, 1, 2, 3, 4, 5, 6, 7, 8, 9, 10, 11, 12, 13] rfl rfl rfl (va_runV (As := [.int en, .int 0]) (rest := [.ref h]) ⟨hx, hb, hml, hown, hts⟩ (c_X4_digit l D cI cS h m1 m2 m3 m4 m5 m6 m7 m8 m9 m10 m11 m12 m13 lf tr an pn gr zax83 wra_50 0 rg rd so sl ces kd pl wt wxk_50 wxp_50 xw wo su ask shw en 0 (by rw [hzax83]; exact mSg haxA hE) hE) (cwV 2 hts gX4_readSecret_X4_digit rfl rfl rfl q_X4_digit ⟨Nat.le_of_ble_eq_true rfl, Nat.le_of_ble_eq_true rfl⟩) (kMV hK hP hD [0, 1, 2, 3, 4, 5, 6, 7, 8, 9, 10, 11, 12, 13] rfl rfl (va_recv hK.1 hP (ci := 4) (q0 := 0) rfl rfl) [.int en, .int 0]) rfl rfl hl.1 rfl (lv_room (Nat.le_of_ble_eq_true rfl)) dX4_readSecret_95 ⟨Nat.zero_le _, Nat.zero_le _⟩) (fun H locs hP hD hS => ?_)
              obtain ⟨zax95, hzax95⟩ : ∃ z : Int32, z = (fX4_digit zax83 ces en 0).2 := ⟨_, rfl⟩
              rw [← hzax95] at hP hD
              refine va_put (D := D) (ci := 4) (v := .int ((fX4_digit zax83 ces en 0).1)) (ty := tyX4 14) (C := RX4) (T := TX4) (N := 23) hx hb hts (fun _ h => List.mem_cons_of_mem _ (List.mem_append_right _ h)) tyX4 tyX4_ok nmX4 hown hK.1 hP hD hS 0 rfl rfl 14 (by decide) (hts (.fieldLink RX4 86 "LieNightsModel" "readGrowth" "I") (List.mem_of_getElem? (i := 3) rfl)) (fun _ h9 => h9) rfl (tyX4_ok 14 (by decide)) rfl rfl (Nat.le_of_ble_eq_true rfl) dX4_readSecret_98 (fun H locs hP hD hS => ?_)
              have hP : va_P D vwCl (wMo cI h m1 m2 m3 m4 m5 m6 m7 m8 m9 m10 m11 m12 m13 lf tr an pn gr zax95 wra_50 0 ((fX4_digit zax83 ces en 0).1) rd so sl ces kd pl wt wxk_50 wxp_50 xw wo su ask shw) H := hP
              have hD : va_D A (wMo cI h m1 m2 m3 m4 m5 m6 m7 m8 m9 m10 m11 m12 m13 lf tr an pn gr zax95 wra_50 0 ((fX4_digit zax83 ces en 0).1) rd so sl ces kd pl wt wxk_50 wxp_50 xw wo su ask shw) := hD
              obtain ⟨zrg98, hzrg98⟩ : ∃ z : Int32, z = (fX4_digit zax83 ces en 0).1 := ⟨_, rfl⟩
              rw [← hzrg98] at hP hD
              refine lv_aload_n hx hb dX4_readSecret_101 rfl (lv_at hl 0 rfl) ?_
              refine va_get (D := D) (ci := 4) (v := .int zrg98) (C := RX4) (T := TX4) (N := 23) hx hb hts (fun _ h => List.mem_cons_of_mem _ (List.mem_append_right _ h)) hown hK.1 hP 0 rfl rfl 14 (by decide) (hts (.fieldLink RX4 86 "LieNightsModel" "readGrowth" "I") (List.mem_of_getElem? (i := 3) rfl)) (fun _ h9 => h9) rfl dX4_readSecret_102 ?_
              refine lv_bipush (v := (-9)) hx hb dX4_readSecret_105 (by decide) ?_
              refine lv_icmp_eq (tgt := 122) hx hb dX4_readSecret_107 (by decide) (fun c107 => ?_) (fun c107 => ?_)
              · skip
                refine lv_iconst (v := 0) hx hb dX4_readSecret_122 (by decide) ?_
                subst hzrg98
                subst hzax95
                subst hzax83
                have hR4 : (fX4_readSecret ax rg ces xk xp xw en) = (0, (fX4_digit (fX4_isSign wax_50 ces en 59).2 ces en 0).2, wra_50, 0, (fX4_digit (fX4_isSign wax_50 ces en 59).2 ces en 0).1, wxk_50, wxp_50, xw) := hRa50.trans (by unfold aX4_readSecret_50; rw [if_neg c86, if_pos c107])
                rw [hQ]
                exact W.zret (v := 0) (ty := .boolean) hx hb hr rfl (fun t ht hW => ⟨⟨_, (), rfl, (by show _ = _; rw [hR4]), (by show va_P D vwCl _ t.heap; rw [hR4, ht]; exact hP)⟩, hS.F ht⟩) hS.2.2 dX4_readSecret_123
              refine lv_aload_n hx hb dX4_readSecret_110 rfl (lv_at hl 0 rfl) ?_
              refine lv_iload_n hx hb dX4_readSecret_111 rfl (lv_at hl 1 rfl) ?_
              refine kMi (wl' := (wMo cI h m1 m2 m3 m4 m5 m6 m7 m8 m9 m10 m11 m12 m13 lf tr an pn gr ((fX4_readThePillars zax95 0 ces xw en).2.1) wra_50 ((fX4_readThePillars zax95 0 ces xw en).2.2.1) zrg98 rd so sl ces kd pl wt wxk_50 wxp_50 ((fX4_readThePillars zax95 0 ces xw en).2.2.2) wo su ask shw)) (wc := (wMo cI h m1 m2 m3 m4 m5 m6 m7 m8 m9 m10 m11 m12 m13 lf tr an pn gr zax95 wra_50 0 zrg98 rd so sl ces kd pl wt wxk_50 wxp_50 xw wo su ask shw)) (w1 := (wMo cI h m1 m2 m3 m4 m5 m6 m7 m8 m9 m10 m11 m12 m13 lf tr an pn gr ((fX4_readThePillars zax95 0 ces xw en).2.1) wra_50 ((fX4_readThePillars zax95 0 ces xw en).2.2.1) zrg98 rd so sl ces kd pl wt wxk_50 wxp_50 ((fX4_readThePillars zax95 0 ces xw en).2.2.2) wo su ask shw)) hP hD hS [0, 1, 2, 3, 4, 5, 6, 7, 8, 9, 10, 11, 12, 13] rfl rfl rfl (va_runV (As := [.int en]) (rest := []) ⟨hx, hb, hml, hown, hts⟩ (c_X4_readThePillars l D cI cS h m1 m2 m3 m4 m5 m6 m7 m8 m9 m10 m11 m12 m13 lf tr an pn gr zax95 wra_50 0 zrg98 rd so sl ces kd pl wt wxk_50 wxp_50 xw wo su ask shw en (by rw [hzax95, hzax83]; exact mDg (mSg haxA hE) hE) hE rfl) (cwV 1 hts gX4_readSecret_X4_readThePillars rfl rfl rfl q_X4_readThePillars ⟨Nat.le_of_ble_eq_true rfl, Nat.le_of_ble_eq_true rfl⟩) (kMV hK hP hD [0, 1, 2, 3, 4, 5, 6, 7, 8, 9, 10, 11, 12, 13] rfl rfl (va_recv hK.1 hP (ci := 4) (q0 := 0) rfl rfl) [.int en]) rfl rfl hl.1 rfl (lv_room (Nat.le_of_ble_eq_true rfl)) dX4_readSecret_112 ⟨Nat.zero_le _, Nat.zero_le _⟩) (fun H locs hP hD hS => ?_)
              obtain ⟨zax112, hzax112⟩ : ∃ z : Int32, z = (fX4_readThePillars zax95 0 ces xw en).2.1 := ⟨_, rfl⟩
              rw [← hzax112] at hP hD
              obtain ⟨zrp112, hzrp112⟩ : ∃ z : Int32, z = (fX4_readThePillars zax95 0 ces xw en).2.2.1 := ⟨_, rfl⟩
              rw [← hzrp112] at hP hD
              obtain ⟨zxw112, hzxw112⟩ : ∃ z : Nat → Int32, z = (fX4_readThePillars zax95 0 ces xw en).2.2.2 := ⟨_, rfl⟩
              rw [← hzxw112] at hP hD
              refine lv_if_eq (tgt := 122) hx hb dX4_readSecret_115 (by decide) (fun c115 => ?_) (fun c115 => ?_)
              · skip
                refine lv_iconst (v := 0) hx hb dX4_readSecret_122 (by decide) ?_
                subst hzxw112
                subst hzrp112
                subst hzax112
                subst hzrg98
                subst hzax95
                subst hzax83
                have hR5 : (fX4_readSecret ax rg ces xk xp xw en) = (0, (fX4_readThePillars (fX4_digit (fX4_isSign wax_50 ces en 59).2 ces en 0).2 0 ces xw en).2.1, wra_50, (fX4_readThePillars (fX4_digit (fX4_isSign wax_50 ces en 59).2 ces en 0).2 0 ces xw en).2.2.1, (fX4_digit (fX4_isSign wax_50 ces en 59).2 ces en 0).1, wxk_50, wxp_50, (fX4_readThePillars (fX4_digit (fX4_isSign wax_50 ces en 59).2 ces en 0).2 0 ces xw en).2.2.2) := hRa50.trans (by unfold aX4_readSecret_50; rw [if_neg c86, if_neg c107, if_pos c115])
                rw [hQ]
                exact W.zret (v := 0) (ty := .boolean) hx hb hr rfl (fun t ht hW => ⟨⟨_, (), rfl, (by show _ = _; rw [hR5]), (by show va_P D vwCl _ t.heap; rw [hR5, ht]; exact hP)⟩, hS.F ht⟩) hS.2.2 dX4_readSecret_123
              refine lv_iconst (v := 1) hx hb dX4_readSecret_118 (by decide) ?_
              refine lv_goto (tgt := 123) hx hb dX4_readSecret_119 (by decide) ?_
              subst hzxw112
              subst hzrp112
              subst hzax112
              subst hzrg98
              subst hzax95
              subst hzax83
              have hR6 : (fX4_readSecret ax rg ces xk xp xw en) = (1, (fX4_readThePillars (fX4_digit (fX4_isSign wax_50 ces en 59).2 ces en 0).2 0 ces xw en).2.1, wra_50, (fX4_readThePillars (fX4_digit (fX4_isSign wax_50 ces en 59).2 ces en 0).2 0 ces xw en).2.2.1, (fX4_digit (fX4_isSign wax_50 ces en 59).2 ces en 0).1, wxk_50, wxp_50, (fX4_readThePillars (fX4_digit (fX4_isSign wax_50 ces en 59).2 ces en 0).2 0 ces xw en).2.2.2) := hRa50.trans (by unfold aX4_readSecret_50; rw [if_neg c86, if_neg c107, if_neg c115])
              rw [hQ]
              exact W.zret (v := 1) (ty := .boolean) hx hb hr rfl (fun t ht hW => ⟨⟨_, (), rfl, (by show _ = _; rw [hR6]), (by show va_P D vwCl _ t.heap; rw [hR6, ht]; exact hP)⟩, hS.F ht⟩) hS.2.2 dX4_readSecret_123
            refine lv_iconst (v := 0) hx hb dX4_readSecret_89 (by decide) ?_
            subst hzax83
            have hR7 : (fX4_readSecret ax rg ces xk xp xw en) = (0, (fX4_isSign wax_50 ces en 59).2, wra_50, 0, rg, wxk_50, wxp_50, xw) := hRa50.trans (by unfold aX4_readSecret_50; rw [if_pos c86])
            rw [hQ]
            exact W.zret (v := 0) (ty := .boolean) hx hb hr rfl (fun t ht hW => ⟨⟨_, (), rfl, (by show _ = _; rw [hR7]), (by show va_P D vwCl _ t.heap; rw [hR7, ht]; exact hP)⟩, hS.F ht⟩) hS.2.2 dX4_readSecret_90
          have loop50 : ∀ (n k50 : Nat), k50 ≤ (6 - 2) → (6 - 2) + 1 ≤ k50 + n → ∀ (wax_50 : Int32) (wra_50 : Int32) (wxk_50 : Nat → Int32) (wxp_50 : Nat → Int32), lq (fun k a => sX4_readSecret_50 rg ces xw en k a.1 a.2.1 a.2.2.1 a.2.2.2) (wax_22, wra_22, wxk_22, wxp_22) k50 = Sum.inl (wax_50, wra_50, wxk_50, wxp_50) → wra_50 = nI (2 + k50) → ¬ wax_50 < 0 → ∀ (H : Heap) (locs : List Loc), va_P D vwCl (wMo cI h m1 m2 m3 m4 m5 m6 m7 m8 m9 m10 m11 m12 m13 lf tr an pn gr wax_50 wra_50 0 rg rd so sl ces kd pl wt wxk_50 wxp_50 xw wo su ask shw) H → va_D A (wMo cI h m1 m2 m3 m4 m5 m6 m7 m8 m9 m10 m11 m12 m13 lf tr an pn gr wax_50 wra_50 0 rg rd so sl ces kd pl wt wxk_50 wxp_50 xw wo su ask shw) → va_S A s.heap H locs → ∀ (ls : Array Slot), lv_has ls 2 [(0, .ref h), (1, .int en)] → W p l e { frames := 3, cells := 0, slots := 0, locals := 66 } s m ([.ref h, .int en] : List Value).toArray below meth c H locs 0 0 Qf (F0 m 50 ls []) := by
            intro n
            induction n with
            | zero => intro k50 h1 h2; exact absurd h2 (by omega)
            | succ n ih =>
              intro k50 hk50 hn50 wax_50 wra_50 wxk_50 wxp_50 hacc50 hra50 hax50 H locs hP hD hS ls hl
              have ih50 := ih
              refine lv_aload_n hx hb dX4_readSecret_50 rfl (lv_at hl 0 rfl) ?_
              refine va_get (D := D) (ci := 4) (v := .int wra_50) (C := RX4) (T := TX4) (N := 23) hx hb hts (fun _ h => List.mem_cons_of_mem _ (List.mem_append_right _ h)) hown hK.1 hP 0 rfl rfl 12 (by decide) (hts (.fieldLink RX4 83 "LieNightsModel" "readAnswers" "I") (List.mem_of_getElem? (i := 1) rfl)) (fun _ h9 => h9) rfl dX4_readSecret_51 ?_
              refine lv_bipush (v := 6) hx hb dX4_readSecret_54 (by decide) ?_
              refine lv_icmp_ge (tgt := 79) hx hb dX4_readSecret_56 (by decide) (fun c56 => ?_) (fun c56 => ?_)
              · skip
                have hkN : k50 = (6 - 2) := (kEndO (o := 2) (B := 6) hk50 (by decide) (by decide) hra50 rfl c56)
                rw [hkN] at hacc50
                have hR8 : (fX4_readSecret ax rg ces xk xp xw en) = aX4_readSecret_50 rg ces xw en wax_50 wra_50 wxk_50 wxp_50 := hR3.trans (lq_end (x := (wax_50, wra_50, wxk_50, wxp_50)) (g := (fun a => aX4_readSecret_50 rg ces xw en a.1 a.2.1 a.2.2.1 a.2.2.2)) hacc50)
                exact aft50 _ _ _ _ hR8 hax50 _ _ hP hD hS ls (lv_sub hl [0, 1] rfl)
              have hlt50 : k50 < (6 - 2) := (kLtO (o := 2) (B := 6) hk50 (by decide) hra50 rfl c56)
              refine lv_aload_n hx hb dX4_readSecret_59 rfl (lv_at hl 0 rfl) ?_
              refine lv_iload_n hx hb dX4_readSecret_60 rfl (lv_at hl 1 rfl) ?_
              refine lv_bipush (v := 44) hx hb dX4_readSecret_61 (by decide) ?_
              refine kMi (wl' := (wMo cI h m1 m2 m3 m4 m5 m6 m7 m8 m9 m10 m11 m12 m13 lf tr an pn gr ((fX4_isSign wax_50 ces en 44).2) wra_50 0 rg rd so sl ces kd pl wt wxk_50 wxp_50 xw wo su ask shw)) (wc := (wMo cI h m1 m2 m3 m4 m5 m6 m7 m8 m9 m10 m11 m12 m13 lf tr an pn gr wax_50 wra_50 0 rg rd so sl ces kd pl wt wxk_50 wxp_50 xw wo su ask shw)) (w1 := (wMo cI h m1 m2 m3 m4 m5 m6 m7 m8 m9 m10 m11 m12 m13 lf tr an pn gr ((fX4_isSign wax_50 ces en 44).2) wra_50 0 rg rd so sl ces kd pl wt wxk_50 wxp_50 xw wo su ask shw)) hP hD hS [0, 1, 2, 3, 4, 5, 6, 7, 8, 9, 10, 11, 12, 13] rfl rfl rfl (va_runV (As := [.int en, .int 44]) (rest := []) ⟨hx, hb, hml, hown, hts⟩ (c_X4_isSign l D cI cS h m1 m2 m3 m4 m5 m6 m7 m8 m9 m10 m11 m12 m13 lf tr an pn gr wax_50 wra_50 0 rg rd so sl ces kd pl wt wxk_50 wxp_50 xw wo su ask shw en 44 hax50 hE) (cwV 2 hts gX4_readSecret_X4_isSign rfl rfl rfl q_X4_isSign ⟨Nat.le_of_ble_eq_true rfl, Nat.le_of_ble_eq_true rfl⟩) (kMV hK hP hD [0, 1, 2, 3, 4, 5, 6, 7, 8, 9, 10, 11, 12, 13] rfl rfl (va_recv hK.1 hP (ci := 4) (q0 := 0) rfl rfl) [.int en, .int 44]) rfl rfl hl.1 rfl (lv_room (Nat.le_of_ble_eq_true rfl)) dX4_readSecret_63 ⟨Nat.zero_le _, Nat.zero_le _⟩) (fun H locs hP hD hS => ?_)
              obtain ⟨zax63, hzax63⟩ : ∃ z : Int32, z = (fX4_isSign wax_50 ces en 44).2 := ⟨_, rfl⟩
              rw [← hzax63] at hP hD
              refine lv_if_eq (tgt := 79) hx hb dX4_readSecret_66 (by decide) (fun c66 => ?_) (fun c66 => ?_)
              · skip
                subst hzax63
                have hR9 : sX4_readSecret_50 rg ces xw en k50 wax_50 wra_50 wxk_50 wxp_50 = (.inr (aX4_readSecret_50 rg ces xw en ((fX4_isSign wax_50 ces en 44).2) wra_50 wxk_50 wxp_50)) := (by unfold sX4_readSecret_50; rw [if_pos c66])
                have hR10 : (fX4_readSecret ax rg ces xk xp xw en) = aX4_readSecret_50 rg ces xw en ((fX4_isSign wax_50 ces en 44).2) wra_50 wxk_50 wxp_50 := hR3.trans (lq_exit hacc50 hR9 hlt50)
                exact aft50 _ _ _ _ hR10 (mSg hax50 hE) _ _ hP hD hS ls (lv_sub hl [0, 1] rfl)
              refine lv_aload_n hx hb dX4_readSecret_69 rfl (lv_at hl 0 rfl) ?_
              refine lv_iload_n hx hb dX4_readSecret_70 rfl (lv_at hl 1 rfl) ?_
              refine kMi (wl' := (wMo cI h m1 m2 m3 m4 m5 m6 m7 m8 m9 m10 m11 m12 m13 lf tr an pn gr ((fX4_readAnswer zax63 wra_50 ces wxk_50 wxp_50 en).2.1) ((fX4_readAnswer zax63 wra_50 ces wxk_50 wxp_50 en).2.2.1) 0 rg rd so sl ces kd pl wt ((fX4_readAnswer zax63 wra_50 ces wxk_50 wxp_50 en).2.2.2.1) ((fX4_readAnswer zax63 wra_50 ces wxk_50 wxp_50 en).2.2.2.2) xw wo su ask shw)) (wc := (wMo cI h m1 m2 m3 m4 m5 m6 m7 m8 m9 m10 m11 m12 m13 lf tr an pn gr zax63 wra_50 0 rg rd so sl ces kd pl wt wxk_50 wxp_50 xw wo su ask shw)) (w1 := (wMo cI h m1 m2 m3 m4 m5 m6 m7 m8 m9 m10 m11 m12 m13 lf tr an pn gr ((fX4_readAnswer zax63 wra_50 ces wxk_50 wxp_50 en).2.1) ((fX4_readAnswer zax63 wra_50 ces wxk_50 wxp_50 en).2.2.1) 0 rg rd so sl ces kd pl wt ((fX4_readAnswer zax63 wra_50 ces wxk_50 wxp_50 en).2.2.2.1) ((fX4_readAnswer zax63 wra_50 ces wxk_50 wxp_50 en).2.2.2.2) xw wo su ask shw)) hP hD hS [0, 1, 2, 3, 4, 5, 6, 7, 8, 9, 10, 11, 12, 13] rfl rfl rfl (va_runV (As := [.int en]) (rest := []) ⟨hx, hb, hml, hown, hts⟩ (c_X4_readAnswer l D cI cS h m1 m2 m3 m4 m5 m6 m7 m8 m9 m10 m11 m12 m13 lf tr an pn gr zax63 wra_50 0 rg rd so sl ces kd pl wt wxk_50 wxp_50 xw wo su ask shw (2 + k50) en (by rw [hzax63]; exact mSg hax50 hE) hE hra50 (by omega)) (cwV 1 hts gX4_readSecret_X4_readAnswer rfl rfl rfl q_X4_readAnswer ⟨Nat.le_of_ble_eq_true rfl, Nat.le_of_ble_eq_true rfl⟩) (kMV hK hP hD [0, 1, 2, 3, 4, 5, 6, 7, 8, 9, 10, 11, 12, 13] rfl rfl (va_recv hK.1 hP (ci := 4) (q0 := 0) rfl rfl) [.int en]) rfl rfl hl.1 rfl (lv_room (Nat.le_of_ble_eq_true rfl)) dX4_readSecret_71 ⟨Nat.zero_le _, Nat.zero_le _⟩) (fun H locs hP hD hS => ?_)
              obtain ⟨zax71, hzax71⟩ : ∃ z : Int32, z = (fX4_readAnswer zax63 wra_50 ces wxk_50 wxp_50 en).2.1 := ⟨_, rfl⟩
              rw [← hzax71] at hP hD
              obtain ⟨zra71, hzra71⟩ : ∃ z : Int32, z = (fX4_readAnswer zax63 wra_50 ces wxk_50 wxp_50 en).2.2.1 := ⟨_, rfl⟩
              rw [← hzra71] at hP hD
              obtain ⟨zxk71, hzxk71⟩ : ∃ z : Nat → Int32, z = (fX4_readAnswer zax63 wra_50 ces wxk_50 wxp_50 en).2.2.2.1 := ⟨_, rfl⟩
              rw [← hzxk71] at hP hD
              obtain ⟨zxp71, hzxp71⟩ : ∃ z : Nat → Int32, z = (fX4_readAnswer zax63 wra_50 ces wxk_50 wxp_50 en).2.2.2.2 := ⟨_, rfl⟩
              rw [← hzxp71] at hP hD
              refine lv_if_ne (tgt := 50) hx hb dX4_readSecret_74 (by decide) (fun c74 => ?_) (fun c74 => ?_)
              · skip
                subst hzxp71
                subst hzxk71
                subst hzra71
                subst hzax71
                subst hzax63
                have hR11 : sX4_readSecret_50 rg ces xw en k50 wax_50 wra_50 wxk_50 wxp_50 = (.inl ((fX4_readAnswer (fX4_isSign wax_50 ces en 44).2 wra_50 ces wxk_50 wxp_50 en).2.1, (fX4_readAnswer (fX4_isSign wax_50 ces en 44).2 wra_50 ces wxk_50 wxp_50 en).2.2.1, (fX4_readAnswer (fX4_isSign wax_50 ces en 44).2 wra_50 ces wxk_50 wxp_50 en).2.2.2.1, (fX4_readAnswer (fX4_isSign wax_50 ces en 44).2 wra_50 ces wxk_50 wxp_50 en).2.2.2.2)) := (by unfold sX4_readSecret_50; rw [if_neg c66, if_neg c74])
                exact ih50 (k50 + 1) hlt50 (by omega) _ _ _ _ (lq_next hacc50 hR11) (mRA c74 hra50) (mRAx (mSg hax50 hE) hE) _ _ hP hD hS ls (lv_sub hl [0, 1] rfl)
              refine lv_iconst (v := 0) hx hb dX4_readSecret_77 (by decide) ?_
              subst hzxp71
              subst hzxk71
              subst hzra71
              subst hzax71
              subst hzax63
              have hR12 : sX4_readSecret_50 rg ces xw en k50 wax_50 wra_50 wxk_50 wxp_50 = (.inr (0, (fX4_readAnswer (fX4_isSign wax_50 ces en 44).2 wra_50 ces wxk_50 wxp_50 en).2.1, (fX4_readAnswer (fX4_isSign wax_50 ces en 44).2 wra_50 ces wxk_50 wxp_50 en).2.2.1, 0, rg, (fX4_readAnswer (fX4_isSign wax_50 ces en 44).2 wra_50 ces wxk_50 wxp_50 en).2.2.2.1, (fX4_readAnswer (fX4_isSign wax_50 ces en 44).2 wra_50 ces wxk_50 wxp_50 en).2.2.2.2, xw)) := (by unfold sX4_readSecret_50; rw [if_neg c66, if_pos c74])
              have hR13 : (fX4_readSecret ax rg ces xk xp xw en) = (0, (fX4_readAnswer (fX4_isSign wax_50 ces en 44).2 wra_50 ces wxk_50 wxp_50 en).2.1, (fX4_readAnswer (fX4_isSign wax_50 ces en 44).2 wra_50 ces wxk_50 wxp_50 en).2.2.1, 0, rg, (fX4_readAnswer (fX4_isSign wax_50 ces en 44).2 wra_50 ces wxk_50 wxp_50 en).2.2.2.1, (fX4_readAnswer (fX4_isSign wax_50 ces en 44).2 wra_50 ces wxk_50 wxp_50 en).2.2.2.2, xw) := hR3.trans (lq_exit hacc50 hR12 hlt50)
              rw [hQ]
              exact W.zret (v := 0) (ty := .boolean) hx hb hr rfl (fun t ht hW => ⟨⟨_, (), rfl, (by show _ = _; rw [hR13]), (by show va_P D vwCl _ t.heap; rw [hR13, ht]; exact hP)⟩, hS.F ht⟩) hS.2.2 dX4_readSecret_78
          exact loop50 ((6 - 2) + 1) 0 (Nat.zero_le _) (by omega) _ _ _ _ rfl (by rw [hra22, hkN]) hax22 _ _ hP hD hS ls (lv_sub hl [0, 1] rfl)
        have hlt22 : k22 < 2 := (kLt hk22 hra22 rfl c27)
        refine lv_aload_n hx hb dX4_readSecret_30 rfl (lv_at hl 0 rfl) ?_
        refine lv_iload_n hx hb dX4_readSecret_31 rfl (lv_at hl 1 rfl) ?_
        refine lv_bipush (v := 44) hx hb dX4_readSecret_32 (by decide) ?_
        refine kMi (wl' := (wMo cI h m1 m2 m3 m4 m5 m6 m7 m8 m9 m10 m11 m12 m13 lf tr an pn gr ((fX4_isSign wax_22 ces en 44).2) wra_22 0 rg rd so sl ces kd pl wt wxk_22 wxp_22 xw wo su ask shw)) (wc := (wMo cI h m1 m2 m3 m4 m5 m6 m7 m8 m9 m10 m11 m12 m13 lf tr an pn gr wax_22 wra_22 0 rg rd so sl ces kd pl wt wxk_22 wxp_22 xw wo su ask shw)) (w1 := (wMo cI h m1 m2 m3 m4 m5 m6 m7 m8 m9 m10 m11 m12 m13 lf tr an pn gr ((fX4_isSign wax_22 ces en 44).2) wra_22 0 rg rd so sl ces kd pl wt wxk_22 wxp_22 xw wo su ask shw)) hP hD hS [0, 1, 2, 3, 4, 5, 6, 7, 8, 9, 10, 11, 12, 13] rfl rfl rfl (va_runV (As := [.int en, .int 44]) (rest := []) ⟨hx, hb, hml, hown, hts⟩ (c_X4_isSign l D cI cS h m1 m2 m3 m4 m5 m6 m7 m8 m9 m10 m11 m12 m13 lf tr an pn gr wax_22 wra_22 0 rg rd so sl ces kd pl wt wxk_22 wxp_22 xw wo su ask shw en 44 hax22 hE) (cwV 2 hts gX4_readSecret_X4_isSign rfl rfl rfl q_X4_isSign ⟨Nat.le_of_ble_eq_true rfl, Nat.le_of_ble_eq_true rfl⟩) (kMV hK hP hD [0, 1, 2, 3, 4, 5, 6, 7, 8, 9, 10, 11, 12, 13] rfl rfl (va_recv hK.1 hP (ci := 4) (q0 := 0) rfl rfl) [.int en, .int 44]) rfl rfl hl.1 rfl (lv_room (Nat.le_of_ble_eq_true rfl)) dX4_readSecret_34 ⟨Nat.zero_le _, Nat.zero_le _⟩) (fun H locs hP hD hS => ?_)
        obtain ⟨zax34, hzax34⟩ : ∃ z : Int32, z = (fX4_isSign wax_22 ces en 44).2 := ⟨_, rfl⟩
        rw [← hzax34] at hP hD
        refine lv_if_eq (tgt := 48) hx hb dX4_readSecret_37 (by decide) (fun c37 => ?_) (fun c37 => ?_)
        · skip
          refine lv_iconst (v := 0) hx hb dX4_readSecret_48 (by decide) ?_
          subst hzax34
          have hR14 : sX4_readSecret_22 rg ces xw en k22 wax_22 wra_22 wxk_22 wxp_22 = (.inr (0, (fX4_isSign wax_22 ces en 44).2, wra_22, 0, rg, wxk_22, wxp_22, xw)) := (by unfold sX4_readSecret_22; rw [if_pos c37])
          have hR15 : (fX4_readSecret ax rg ces xk xp xw en) = (0, (fX4_isSign wax_22 ces en 44).2, wra_22, 0, rg, wxk_22, wxp_22, xw) := hR1.trans (lq_exit hacc22 hR14 hlt22)
          rw [hQ]
          exact W.zret (v := 0) (ty := .boolean) hx hb hr rfl (fun t ht hW => ⟨⟨_, (), rfl, (by show _ = _; rw [hR15]), (by show va_P D vwCl _ t.heap; rw [hR15, ht]; exact hP)⟩, hS.F ht⟩) hS.2.2 dX4_readSecret_49
        refine lv_aload_n hx hb dX4_readSecret_40 rfl (lv_at hl 0 rfl) ?_
        refine lv_iload_n hx hb dX4_readSecret_41 rfl (lv_at hl 1 rfl) ?_
        refine kMi (wl' := (wMo cI h m1 m2 m3 m4 m5 m6 m7 m8 m9 m10 m11 m12 m13 lf tr an pn gr ((fX4_readAnswer zax34 wra_22 ces wxk_22 wxp_22 en).2.1) ((fX4_readAnswer zax34 wra_22 ces wxk_22 wxp_22 en).2.2.1) 0 rg rd so sl ces kd pl wt ((fX4_readAnswer zax34 wra_22 ces wxk_22 wxp_22 en).2.2.2.1) ((fX4_readAnswer zax34 wra_22 ces wxk_22 wxp_22 en).2.2.2.2) xw wo su ask shw)) (wc := (wMo cI h m1 m2 m3 m4 m5 m6 m7 m8 m9 m10 m11 m12 m13 lf tr an pn gr zax34 wra_22 0 rg rd so sl ces kd pl wt wxk_22 wxp_22 xw wo su ask shw)) (w1 := (wMo cI h m1 m2 m3 m4 m5 m6 m7 m8 m9 m10 m11 m12 m13 lf tr an pn gr ((fX4_readAnswer zax34 wra_22 ces wxk_22 wxp_22 en).2.1) ((fX4_readAnswer zax34 wra_22 ces wxk_22 wxp_22 en).2.2.1) 0 rg rd so sl ces kd pl wt ((fX4_readAnswer zax34 wra_22 ces wxk_22 wxp_22 en).2.2.2.1) ((fX4_readAnswer zax34 wra_22 ces wxk_22 wxp_22 en).2.2.2.2) xw wo su ask shw)) hP hD hS [0, 1, 2, 3, 4, 5, 6, 7, 8, 9, 10, 11, 12, 13] rfl rfl rfl (va_runV (As := [.int en]) (rest := []) ⟨hx, hb, hml, hown, hts⟩ (c_X4_readAnswer l D cI cS h m1 m2 m3 m4 m5 m6 m7 m8 m9 m10 m11 m12 m13 lf tr an pn gr zax34 wra_22 0 rg rd so sl ces kd pl wt wxk_22 wxp_22 xw wo su ask shw k22 en (by rw [hzax34]; exact mSg hax22 hE) hE hra22 (by omega)) (cwV 1 hts gX4_readSecret_X4_readAnswer rfl rfl rfl q_X4_readAnswer ⟨Nat.le_of_ble_eq_true rfl, Nat.le_of_ble_eq_true rfl⟩) (kMV hK hP hD [0, 1, 2, 3, 4, 5, 6, 7, 8, 9, 10, 11, 12, 13] rfl rfl (va_recv hK.1 hP (ci := 4) (q0 := 0) rfl rfl) [.int en]) rfl rfl hl.1 rfl (lv_room (Nat.le_of_ble_eq_true rfl)) dX4_readSecret_42 ⟨Nat.zero_le _, Nat.zero_le _⟩) (fun H locs hP hD hS => ?_)
        obtain ⟨zax42, hzax42⟩ : ∃ z : Int32, z = (fX4_readAnswer zax34 wra_22 ces wxk_22 wxp_22 en).2.1 := ⟨_, rfl⟩
        rw [← hzax42] at hP hD
        obtain ⟨zra42, hzra42⟩ : ∃ z : Int32, z = (fX4_readAnswer zax34 wra_22 ces wxk_22 wxp_22 en).2.2.1 := ⟨_, rfl⟩
        rw [← hzra42] at hP hD
        obtain ⟨zxk42, hzxk42⟩ : ∃ z : Nat → Int32, z = (fX4_readAnswer zax34 wra_22 ces wxk_22 wxp_22 en).2.2.2.1 := ⟨_, rfl⟩
        rw [← hzxk42] at hP hD
        obtain ⟨zxp42, hzxp42⟩ : ∃ z : Nat → Int32, z = (fX4_readAnswer zax34 wra_22 ces wxk_22 wxp_22 en).2.2.2.2 := ⟨_, rfl⟩
        rw [← hzxp42] at hP hD
        refine lv_if_ne (tgt := 22) hx hb dX4_readSecret_45 (by decide) (fun c45 => ?_) (fun c45 => ?_)
        · skip
          subst hzxp42
          subst hzxk42
          subst hzra42
          subst hzax42
          subst hzax34
          have hR16 : sX4_readSecret_22 rg ces xw en k22 wax_22 wra_22 wxk_22 wxp_22 = (.inl ((fX4_readAnswer (fX4_isSign wax_22 ces en 44).2 wra_22 ces wxk_22 wxp_22 en).2.1, (fX4_readAnswer (fX4_isSign wax_22 ces en 44).2 wra_22 ces wxk_22 wxp_22 en).2.2.1, (fX4_readAnswer (fX4_isSign wax_22 ces en 44).2 wra_22 ces wxk_22 wxp_22 en).2.2.2.1, (fX4_readAnswer (fX4_isSign wax_22 ces en 44).2 wra_22 ces wxk_22 wxp_22 en).2.2.2.2)) := (by unfold sX4_readSecret_22; rw [if_neg c37, if_neg c45])
          exact ih22 (k22 + 1) hlt22 (by omega) _ _ _ _ (lq_next hacc22 hR16) (mRA c45 hra22) (mRAx (mSg hax22 hE) hE) _ _ hP hD hS ls (lv_sub hl [0, 1] rfl)
        refine lv_iconst (v := 0) hx hb dX4_readSecret_48 (by decide) ?_
        subst hzxp42
        subst hzxk42
        subst hzra42
        subst hzax42
        subst hzax34
        have hR17 : sX4_readSecret_22 rg ces xw en k22 wax_22 wra_22 wxk_22 wxp_22 = (.inr (0, (fX4_readAnswer (fX4_isSign wax_22 ces en 44).2 wra_22 ces wxk_22 wxp_22 en).2.1, (fX4_readAnswer (fX4_isSign wax_22 ces en 44).2 wra_22 ces wxk_22 wxp_22 en).2.2.1, 0, rg, (fX4_readAnswer (fX4_isSign wax_22 ces en 44).2 wra_22 ces wxk_22 wxp_22 en).2.2.2.1, (fX4_readAnswer (fX4_isSign wax_22 ces en 44).2 wra_22 ces wxk_22 wxp_22 en).2.2.2.2, xw)) := (by unfold sX4_readSecret_22; rw [if_neg c37, if_pos c45])
        have hR18 : (fX4_readSecret ax rg ces xk xp xw en) = (0, (fX4_readAnswer (fX4_isSign wax_22 ces en 44).2 wra_22 ces wxk_22 wxp_22 en).2.1, (fX4_readAnswer (fX4_isSign wax_22 ces en 44).2 wra_22 ces wxk_22 wxp_22 en).2.2.1, 0, rg, (fX4_readAnswer (fX4_isSign wax_22 ces en 44).2 wra_22 ces wxk_22 wxp_22 en).2.2.2.1, (fX4_readAnswer (fX4_isSign wax_22 ces en 44).2 wra_22 ces wxk_22 wxp_22 en).2.2.2.2, xw) := hR1.trans (lq_exit hacc22 hR17 hlt22)
        rw [hQ]
        exact W.zret (v := 0) (ty := .boolean) hx hb hr rfl (fun t ht hW => ⟨⟨_, (), rfl, (by show _ = _; rw [hR18]), (by show va_P D vwCl _ t.heap; rw [hR18, ht]; exact hP)⟩, hS.F ht⟩) hS.2.2 dX4_readSecret_49
    exact loop22 (2 + 1) 0 (Nat.zero_le _) (by omega) _ _ _ _ rfl rfl (mSg hax hE) _ _ hP hD hS ls (lv_sub hl [0, 1] rfl)
  refine lv_iconst (v := 0) hx hb dX4_readSecret_20 (by decide) ?_
  subst hzax14
  have hR19 : (fX4_readSecret ax rg ces xk xp xw en) = (0, (fX4_isSign ax ces en 97).2, 0, 0, rg, xk, xp, xw) := (by unfold fX4_readSecret; rw [if_pos c17])
  rw [hQ]
  exact W.zret (v := 0) (ty := .boolean) hx hb hr rfl (fun t ht hW => ⟨⟨_, (), rfl, (by show _ = _; rw [hR19]), (by show va_P D vwCl _ t.heap; rw [hR19, ht]; exact hP)⟩, hS.F ht⟩) hS.2.2 dX4_readSecret_21
