def aX4_sheet_57 (so sl : Nat → Int32) (sh ln nn : Int32) (wces_57 : Nat → Int32) : (Int32 × Int32 × (Nat → Int32) × (Nat → Int32) × (Nat → Int32)) := (1, 0, (upd so sh.toNatClampNeg ln), (upd sl sh.toNatClampNeg nn), wces_57)
def sX4_sheet_57 (sh : Int32) (k57 : Nat) (wces_57 : Nat → Int32) : ((Nat → Int32)) := (upd wces_57 (((60 * sh) + (nI k57)).toNatClampNeg) 0)
def fX4_sheet (so sl ces : Nat → Int32) (sh ln nn : Int32) : Int32 × Int32 × (Nat → Int32) × (Nat → Int32) × (Nat → Int32) := (if (fX4_isSheet sh) = 0 then ((-1), 0, so, sl, ces) else (if (fX4_isSort ln) = 0 then ((-2), 0, so, sl, ces) else (if nn ≤ 60 then (if (0 : Int32) ≤ nn then (aX4_sheet_57 so sl sh ln nn (lp (fun k a => sX4_sheet_57 sh k a) ces 60)) else (((-10) - 4), 4, so, sl, ces)) else ((-2), 0, so, sl, ces))))
theorem q_X4_sheet : yX4_sheet.cls = RX4 ∧ yX4_sheet.cls ≠ "java/lang/invoke/MethodHandle" ∧ yX4_sheet.cls ≠ "java/lang/invoke/VarHandle" ∧ (parseMethodDescriptor yX4_sheet.desc).map (fun d => d.parameters.length) = some 3 := by decide +kernel
set_option maxHeartbeats 4000000 in
set_option maxRecDepth 100000 in
theorem c_X4_sheet (l : Launch) (D : va_G) (cI cS : ClassId) (h m1 m2 m3 m4 m5 m6 m7 m8 m9 m10 m11 m12 m13 : Nat) (lf tr an pn gr ax ra rp rg rd : Int32) (so sl ces kd pl wt xk xp xw wo su ask shw : Nat → Int32) (sh ln nn : Int32)  : MMi l yX4_sheet wsX4_sheet { frames := 2, cells := 0, slots := 0, locals := 42 } D cI cS (wMo cI h m1 m2 m3 m4 m5 m6 m7 m8 m9 m10 m11 m12 m13 lf tr an pn gr ax ra rp rg rd so sl ces kd pl wt xk xp xw wo su ask shw) [.ref h, .int sh, .int ln, .int nn] ((fX4_sheet so sl ces sh ln nn).1) (wMo cI h m1 m2 m3 m4 m5 m6 m7 m8 m9 m10 m11 m12 m13 ((fX4_sheet so sl ces sh ln nn).2.1) tr an pn gr ax ra rp rg rd ((fX4_sheet so sl ces sh ln nn).2.2.1) ((fX4_sheet so sl ces sh ln nn).2.2.2.1) ((fX4_sheet so sl ces sh ln nn).2.2.2.2) kd pl wt xk xp xw wo su ask shw) := by
  refine kEnterM (cc := cX4_sheet) (maxL := 5) (ret := (some .int)) (by decide) rfl (Nat.le_of_ble_eq_true rfl) ?_
  intro p e s m below meth c ls Qf hQ hx hb hml hr hlocks hown hts hK hP hD hS hl
  have hown : s.vm.findClass RX4 = some m.cls := hown
  have hl : lv_has ls 5 [(0, .ref h), (1, .int sh), (2, .int ln), (3, .int nn)] := hl
  generalize kA (wMo cI h m1 m2 m3 m4 m5 m6 m7 m8 m9 m10 m11 m12 m13 lf tr an pn gr ax ra rp rg rd so sl ces kd pl wt xk xp xw wo su ask shw) = A at hQ hD hS
  refine lv_aload_n hx hb dX4_sheet_0 rfl (lv_at hl 0 rfl) ?_
  refine lv_iconst (v := 0) hx hb dX4_sheet_1 (by decide) ?_
  refine va_put (D := D) (ci := 4) (v := .int 0) (ty := tyX4 0) (C := RX4) (T := TX4) (N := 23) hx hb hts (fun _ h => List.mem_cons_of_mem _ (List.mem_append_right _ h)) tyX4 tyX4_ok nmX4 hown hK.1 hP hD hS 0 rfl rfl 0 (by decide) (hts (.fieldLink RX4 49 "LieNightsModel" "fault" "I") (List.mem_of_getElem? (i := 1) rfl)) (fun _ h9 => h9) rfl (tyX4_ok 0 (by decide)) rfl rfl (Nat.le_of_ble_eq_true rfl) dX4_sheet_2 (fun H locs hP hD hS => ?_)
  have hP : va_P D vwCl (wMo cI h m1 m2 m3 m4 m5 m6 m7 m8 m9 m10 m11 m12 m13 0 tr an pn gr ax ra rp rg rd so sl ces kd pl wt xk xp xw wo su ask shw) H := hP
  have hD : va_D A (wMo cI h m1 m2 m3 m4 m5 m6 m7 m8 m9 m10 m11 m12 m13 0 tr an pn gr ax ra rp rg rd so sl ces kd pl wt xk xp xw wo su ask shw) := hD
  refine lv_iload_n hx hb dX4_sheet_5 rfl (lv_at hl 1 rfl) ?_
  refine kPi (va_runS (As := [.int sh]) (rest := []) ⟨hx, hb, hml, hown, hts⟩ (c_X4_isSheet l D cI cS sh) (va_cwS 1 hts gX4_sheet_X4_isSheet rfl rfl rfl q_X4_isSheet.2 ⟨Nat.le_of_ble_eq_true rfl, Nat.le_of_ble_eq_true rfl⟩) (kPS hK hP [] rfl [.int sh]) rfl rfl hl.1 rfl (lv_room (Nat.le_of_ble_eq_true rfl)) dX4_sheet_6 ⟨Nat.zero_le _, Nat.zero_le _⟩) ?_
  refine lv_if_ne (tgt := 14) hx hb dX4_sheet_9 (by decide) (fun c9 => ?_) (fun c9 => ?_)
  · skip
    refine lv_iload_n hx hb dX4_sheet_14 rfl (lv_at hl 2 rfl) ?_
    refine kPi (va_runS (As := [.int ln]) (rest := []) ⟨hx, hb, hml, hown, hts⟩ (c_X4_isSort l D cI cS ln) (va_cwS 1 hts gX4_sheet_X4_isSort rfl rfl rfl q_X4_isSort.2 ⟨Nat.le_of_ble_eq_true rfl, Nat.le_of_ble_eq_true rfl⟩) (kPS hK hP [] rfl [.int ln]) rfl rfl hl.1 rfl (lv_room (Nat.le_of_ble_eq_true rfl)) dX4_sheet_15 ⟨Nat.zero_le _, Nat.zero_le _⟩) ?_
    refine lv_if_eq (tgt := 27) hx hb dX4_sheet_18 (by decide) (fun c18 => ?_) (fun c18 => ?_)
    · skip
      refine lv_bipush (v := (-2)) hx hb dX4_sheet_27 (by decide) ?_
      have hR1 : (fX4_sheet so sl ces sh ln nn) = ((-2), 0, so, sl, ces) := (by unfold fX4_sheet; rw [if_neg c9, if_pos c18])
      rw [hQ]
      exact W.iret (v := (-2)) hx hb hr (fun t ht hW => ⟨⟨_, (), rfl, (by show _ = _; rw [hR1]), (by show va_P D vwCl _ t.heap; rw [hR1, ht]; exact hP)⟩, hS.F ht⟩) hS.2.2 dX4_sheet_29
    refine lv_iload_n hx hb dX4_sheet_21 rfl (lv_at hl 3 rfl) ?_
    refine lv_bipush (v := 60) hx hb dX4_sheet_22 (by decide) ?_
    refine lv_icmp_le (tgt := 30) hx hb dX4_sheet_24 (by decide) (fun c24 => ?_) (fun c24 => ?_)
    · skip
      refine lv_iload_n hx hb dX4_sheet_30 rfl (lv_at hl 3 rfl) ?_
      refine lv_if_ge (tgt := 40) hx hb dX4_sheet_31 (by decide) (fun c31 => ?_) (fun c31 => ?_)
      · skip
        refine lv_aload_n hx hb dX4_sheet_40 rfl (lv_at hl 0 rfl) ?_
        refine va_get (D := D) (ci := 4) (v := .ref m1) (C := RX4) (T := TX4) (N := 23) hx hb hts (fun _ h => List.mem_cons_of_mem _ (List.mem_append_right _ h)) hown hK.1 hP 0 rfl rfl 2 (by decide) (hts (.fieldLink RX4 9 "LieNightsModel" "sorts" "[I") (List.mem_of_getElem? (i := 2) rfl)) (fun _ h9 => h9) rfl dX4_sheet_41 ?_
        refine lv_iload_n hx hb dX4_sheet_44 rfl (lv_at hl 1 rfl) ?_
        refine lv_iload_n hx hb dX4_sheet_45 rfl (lv_at hl 2 rfl) ?_
        refine va_iast hx hb hK.1 hP hD hS 1 0 rfl rfl (mSh c9) dX4_sheet_46 (fun H locs hP hD hS => ?_)
        have hP : va_P D vwCl (wMo cI h m1 m2 m3 m4 m5 m6 m7 m8 m9 m10 m11 m12 m13 0 tr an pn gr ax ra rp rg rd (upd so sh.toNatClampNeg ln) sl ces kd pl wt xk xp xw wo su ask shw) H := hP
        have hD : va_D A (wMo cI h m1 m2 m3 m4 m5 m6 m7 m8 m9 m10 m11 m12 m13 0 tr an pn gr ax ra rp rg rd (upd so sh.toNatClampNeg ln) sl ces kd pl wt xk xp xw wo su ask shw) := hD
        refine lv_aload_n hx hb dX4_sheet_47 rfl (lv_at hl 0 rfl) ?_
        refine va_get (D := D) (ci := 4) (v := .ref m2) (C := RX4) (T := TX4) (N := 23) hx hb hts (fun _ h => List.mem_cons_of_mem _ (List.mem_append_right _ h)) hown hK.1 hP 0 rfl rfl 3 (by decide) (hts (.fieldLink RX4 13 "LieNightsModel" "sheetLong" "[I") (List.mem_of_getElem? (i := 3) rfl)) (fun _ h9 => h9) rfl dX4_sheet_48 ?_
        refine lv_iload_n hx hb dX4_sheet_51 rfl (lv_at hl 1 rfl) ?_
        refine lv_iload_n hx hb dX4_sheet_52 rfl (lv_at hl 3 rfl) ?_
        refine va_iast hx hb hK.1 hP hD hS 2 0 rfl rfl (mSh c9) dX4_sheet_53 (fun H locs hP hD hS => ?_)
        have hP : va_P D vwCl (wMo cI h m1 m2 m3 m4 m5 m6 m7 m8 m9 m10 m11 m12 m13 0 tr an pn gr ax ra rp rg rd (upd so sh.toNatClampNeg ln) (upd sl sh.toNatClampNeg nn) ces kd pl wt xk xp xw wo su ask shw) H := hP
        have hD : va_D A (wMo cI h m1 m2 m3 m4 m5 m6 m7 m8 m9 m10 m11 m12 m13 0 tr an pn gr ax ra rp rg rd (upd so sh.toNatClampNeg ln) (upd sl sh.toNatClampNeg nn) ces kd pl wt xk xp xw wo su ask shw) := hD
        refine lv_iconst (v := 0) hx hb dX4_sheet_54 (by decide) ?_
        refine lv_istore (lv' := [(4, .int 0), (0, .ref h), (1, .int sh), (2, .int ln), (3, .int nn)]) hx hb dX4_sheet_55 hl (by decide) rfl (fun ls hl => ?_)
        have hR2 : (fX4_sheet so sl ces sh ln nn) = (aX4_sheet_57 so sl sh ln nn (lp (fun k a => sX4_sheet_57 sh k a) ces 60)) := (by unfold fX4_sheet; rw [if_neg c9, if_neg c18, if_pos c24, if_pos c31])
        have loop57 : ∀ (n k57 : Nat), k57 ≤ 60 → 60 + 1 ≤ k57 + n → ∀ (wces_57 : Nat → Int32), lp (fun k a => sX4_sheet_57 sh k a) ces k57 = wces_57 →  ∀ (H : Heap) (locs : List Loc), va_P D vwCl (wMo cI h m1 m2 m3 m4 m5 m6 m7 m8 m9 m10 m11 m12 m13 0 tr an pn gr ax ra rp rg rd (upd so sh.toNatClampNeg ln) (upd sl sh.toNatClampNeg nn) wces_57 kd pl wt xk xp xw wo su ask shw) H → va_D A (wMo cI h m1 m2 m3 m4 m5 m6 m7 m8 m9 m10 m11 m12 m13 0 tr an pn gr ax ra rp rg rd (upd so sh.toNatClampNeg ln) (upd sl sh.toNatClampNeg nn) wces_57 kd pl wt xk xp xw wo su ask shw) → va_S A s.heap H locs → ∀ (ls : Array Slot), lv_has ls 5 [(0, .ref h), (1, .int sh), (2, .int ln), (3, .int nn), (4, .int (nI k57))] → W p l e { frames := 2, cells := 0, slots := 0, locals := 42 } s m ([.ref h, .int sh, .int ln, .int nn] : List Value).toArray below meth c H locs 0 0 Qf (F0 m 57 ls []) := by
          intro n
          induction n with
          | zero => intro k57 h1 h2; exact absurd h2 (by omega)
          | succ n ih =>
            intro k57 hk57 hn57 wces_57 hacc57  H locs hP hD hS ls hl
            have ih57 := ih
            refine lv_iload hx hb dX4_sheet_57 (lv_at hl 4 rfl) ?_
            refine lv_bipush (v := 60) hx hb dX4_sheet_59 (by decide) ?_
            refine lv_icmp_ge (tgt := 83) hx hb dX4_sheet_61 (by decide) (fun c61 => ?_) (fun c61 => ?_)
            · skip
              have hkN : k57 = 60 := (kEnd hk57 rfl rfl (by omega) c61)
              rw [hkN] at hacc57
              have hR3 : (fX4_sheet so sl ces sh ln nn) = aX4_sheet_57 so sl sh ln nn wces_57 := hR2.trans (lp_end (x := wces_57) (g := (fun a => aX4_sheet_57 so sl sh ln nn a)) hacc57)
              refine lv_iconst (v := 1) hx hb dX4_sheet_83 (by decide) ?_
              have hR4 : (fX4_sheet so sl ces sh ln nn) = (1, 0, (upd so sh.toNatClampNeg ln), (upd sl sh.toNatClampNeg nn), wces_57) := hR3.trans rfl
              rw [hQ]
              exact W.iret (v := 1) hx hb hr (fun t ht hW => ⟨⟨_, (), rfl, (by show _ = _; rw [hR4]), (by show va_P D vwCl _ t.heap; rw [hR4, ht]; exact hP)⟩, hS.F ht⟩) hS.2.2 dX4_sheet_84
            have hlt57 : k57 < 60 := (kLt hk57 rfl rfl c61)
            refine lv_aload_n hx hb dX4_sheet_64 rfl (lv_at hl 0 rfl) ?_
            refine va_get (D := D) (ci := 4) (v := .ref m3) (C := RX4) (T := TX4) (N := 23) hx hb hts (fun _ h => List.mem_cons_of_mem _ (List.mem_append_right _ h)) hown hK.1 hP 0 rfl rfl 4 (by decide) (hts (.fieldLink RX4 16 "LieNightsModel" "cells" "[I") (List.mem_of_getElem? (i := 4) rfl)) (fun _ h9 => h9) rfl dX4_sheet_65 ?_
            refine lv_bipush (v := 60) hx hb dX4_sheet_68 (by decide) ?_
            refine lv_iload_n hx hb dX4_sheet_70 rfl (lv_at hl 1 rfl) ?_
            refine lv_imul hx hb dX4_sheet_71 ?_
            refine lv_iload hx hb dX4_sheet_72 (lv_at hl 4 rfl) ?_
            refine lv_iadd hx hb dX4_sheet_74 ?_
            refine lv_iconst (v := 0) hx hb dX4_sheet_75 (by decide) ?_
            refine va_iast hx hb hK.1 hP hD hS 3 0 rfl rfl (mCellZ (mSh c9) hlt57) dX4_sheet_76 (fun H locs hP hD hS => ?_)
            have hP : va_P D vwCl (wMo cI h m1 m2 m3 m4 m5 m6 m7 m8 m9 m10 m11 m12 m13 0 tr an pn gr ax ra rp rg rd (upd so sh.toNatClampNeg ln) (upd sl sh.toNatClampNeg nn) (upd wces_57 (((60 * sh) + (nI k57)).toNatClampNeg) 0) kd pl wt xk xp xw wo su ask shw) H := hP
            have hD : va_D A (wMo cI h m1 m2 m3 m4 m5 m6 m7 m8 m9 m10 m11 m12 m13 0 tr an pn gr ax ra rp rg rd (upd so sh.toNatClampNeg ln) (upd sl sh.toNatClampNeg nn) (upd wces_57 (((60 * sh) + (nI k57)).toNatClampNeg) 0) kd pl wt xk xp xw wo su ask shw) := hD
            refine lv_iinc (v := (nI (k57 + 1))) (lv' := [(4, .int (nI (k57 + 1))), (0, .ref h), (1, .int sh), (2, .int ln), (3, .int nn)]) hx hb dX4_sheet_77 hl (k := 4) rfl (nI_1 (k57)) (by decide) rfl (fun ls hl => ?_)
            refine lv_goto (tgt := 57) hx hb dX4_sheet_80 (by decide) ?_
            have hR5 : sX4_sheet_57 sh k57 wces_57 = (upd wces_57 (((60 * sh) + (nI k57)).toNatClampNeg) 0) := rfl
            exact ih57 (k57 + 1) hlt57 (by omega) _ (lp_next hacc57 hR5)  _ _ hP hD hS ls (lv_sub hl [1, 2, 3, 4, 0] rfl)
        exact loop57 (60 + 1) 0 (Nat.zero_le _) (by omega) _ rfl  _ _ hP hD hS ls (lv_sub hl [1, 2, 3, 4, 0] rfl)
      refine lv_aload_n hx hb dX4_sheet_34 rfl (lv_at hl 0 rfl) ?_
      refine lv_iconst (v := 4) hx hb dX4_sheet_35 (by decide) ?_
      refine kMi (wl' := (wMo cI h m1 m2 m3 m4 m5 m6 m7 m8 m9 m10 m11 m12 m13 4 tr an pn gr ax ra rp rg rd so sl ces kd pl wt xk xp xw wo su ask shw)) (wc := (wMo cI h m1 m2 m3 m4 m5 m6 m7 m8 m9 m10 m11 m12 m13 0 tr an pn gr ax ra rp rg rd so sl ces kd pl wt xk xp xw wo su ask shw)) (w1 := (wMo cI h m1 m2 m3 m4 m5 m6 m7 m8 m9 m10 m11 m12 m13 4 tr an pn gr ax ra rp rg rd so sl ces kd pl wt xk xp xw wo su ask shw)) hP hD hS [0, 1, 2, 3, 4, 5, 6, 7, 8, 9, 10, 11, 12, 13] rfl rfl rfl (va_runV (As := [.int 4]) (rest := []) ⟨hx, hb, hml, hown, hts⟩ (c_X4_fails l D cI cS h m1 m2 m3 m4 m5 m6 m7 m8 m9 m10 m11 m12 m13 0 tr an pn gr ax ra rp rg rd so sl ces kd pl wt xk xp xw wo su ask shw 4) (cwV 1 hts gX4_sheet_X4_fails rfl rfl rfl q_X4_fails ⟨Nat.le_of_ble_eq_true rfl, Nat.le_of_ble_eq_true rfl⟩) (kMV hK hP hD [0, 1, 2, 3, 4, 5, 6, 7, 8, 9, 10, 11, 12, 13] rfl rfl (va_recv hK.1 hP (ci := 4) (q0 := 0) rfl rfl) [.int 4]) rfl rfl hl.1 rfl (lv_room (Nat.le_of_ble_eq_true rfl)) dX4_sheet_36 ⟨Nat.zero_le _, Nat.zero_le _⟩) (fun H locs hP hD hS => ?_)
      have hR6 : (fX4_sheet so sl ces sh ln nn) = (((-10) - 4), 4, so, sl, ces) := (by unfold fX4_sheet; rw [if_neg c9, if_neg c18, if_pos c24, if_neg c31])
      rw [hQ]
      exact W.iret (v := ((-10) - 4)) hx hb hr (fun t ht hW => ⟨⟨_, (), rfl, (by show _ = _; rw [hR6]), (by show va_P D vwCl _ t.heap; rw [hR6, ht]; exact hP)⟩, hS.F ht⟩) hS.2.2 dX4_sheet_39
    refine lv_bipush (v := (-2)) hx hb dX4_sheet_27 (by decide) ?_
    have hR7 : (fX4_sheet so sl ces sh ln nn) = ((-2), 0, so, sl, ces) := (by unfold fX4_sheet; rw [if_neg c9, if_neg c18, if_neg c24])
    rw [hQ]
    exact W.iret (v := (-2)) hx hb hr (fun t ht hW => ⟨⟨_, (), rfl, (by show _ = _; rw [hR7]), (by show va_P D vwCl _ t.heap; rw [hR7, ht]; exact hP)⟩, hS.F ht⟩) hS.2.2 dX4_sheet_29
  refine lv_iconst (v := (-1)) hx hb dX4_sheet_12 (by decide) ?_
  have hR8 : (fX4_sheet so sl ces sh ln nn) = ((-1), 0, so, sl, ces) := (by unfold fX4_sheet; rw [if_pos c9])
  rw [hQ]
  exact W.iret (v := (-1)) hx hb hr (fun t ht hW => ⟨⟨_, (), rfl, (by show _ = _; rw [hR8]), (by show va_P D vwCl _ t.heap; rw [hR8, ht]; exact hP)⟩, hS.F ht⟩) hS.2.2 dX4_sheet_13

def fX4_lose (so : Nat → Int32) (sh : Int32) : Int32 × (Nat → Int32) := (if (fX4_isSheet sh) = 0 then ((-1), so) else (if (so sh.toNatClampNeg) = (-9) then (0, (upd so sh.toNatClampNeg (-9))) else (1, (upd so sh.toNatClampNeg (-9)))))
theorem q_X4_lose : yX4_lose.cls = RX4 ∧ yX4_lose.cls ≠ "java/lang/invoke/MethodHandle" ∧ yX4_lose.cls ≠ "java/lang/invoke/VarHandle" ∧ (parseMethodDescriptor yX4_lose.desc).map (fun d => d.parameters.length) = some 1 := by decide +kernel
set_option maxHeartbeats 4000000 in
set_option maxRecDepth 100000 in
theorem c_X4_lose (l : Launch) (D : va_G) (cI cS : ClassId) (h m1 m2 m3 m4 m5 m6 m7 m8 m9 m10 m11 m12 m13 : Nat) (lf tr an pn gr ax ra rp rg rd : Int32) (so sl ces kd pl wt xk xp xw wo su ask shw : Nat → Int32) (sh : Int32)  : MMi l yX4_lose wsX4_lose { frames := 2, cells := 0, slots := 0, locals := 42 } D cI cS (wMo cI h m1 m2 m3 m4 m5 m6 m7 m8 m9 m10 m11 m12 m13 lf tr an pn gr ax ra rp rg rd so sl ces kd pl wt xk xp xw wo su ask shw) [.ref h, .int sh] ((fX4_lose so sh).1) (wMo cI h m1 m2 m3 m4 m5 m6 m7 m8 m9 m10 m11 m12 m13 lf tr an pn gr ax ra rp rg rd ((fX4_lose so sh).2) sl ces kd pl wt xk xp xw wo su ask shw) := by
  refine kEnterM (cc := cX4_lose) (maxL := 3) (ret := (some .int)) (by decide) rfl (Nat.le_of_ble_eq_true rfl) ?_
  intro p e s m below meth c ls Qf hQ hx hb hml hr hlocks hown hts hK hP hD hS hl
  have hown : s.vm.findClass RX4 = some m.cls := hown
  have hl : lv_has ls 3 [(0, .ref h), (1, .int sh)] := hl
  generalize kA (wMo cI h m1 m2 m3 m4 m5 m6 m7 m8 m9 m10 m11 m12 m13 lf tr an pn gr ax ra rp rg rd so sl ces kd pl wt xk xp xw wo su ask shw) = A at hQ hD hS
  refine lv_iload_n hx hb dX4_lose_0 rfl (lv_at hl 1 rfl) ?_
  refine kPi (va_runS (As := [.int sh]) (rest := []) ⟨hx, hb, hml, hown, hts⟩ (c_X4_isSheet l D cI cS sh) (va_cwS 1 hts gX4_lose_X4_isSheet rfl rfl rfl q_X4_isSheet.2 ⟨Nat.le_of_ble_eq_true rfl, Nat.le_of_ble_eq_true rfl⟩) (kPS hK hP [] rfl [.int sh]) rfl rfl hl.1 rfl (lv_room (Nat.le_of_ble_eq_true rfl)) dX4_lose_1 ⟨Nat.zero_le _, Nat.zero_le _⟩) ?_
  refine lv_if_ne (tgt := 9) hx hb dX4_lose_4 (by decide) (fun c4 => ?_) (fun c4 => ?_)
  · skip
    refine lv_aload_n hx hb dX4_lose_9 rfl (lv_at hl 0 rfl) ?_
    refine va_get (D := D) (ci := 4) (v := .ref m1) (C := RX4) (T := TX4) (N := 23) hx hb hts (fun _ h => List.mem_cons_of_mem _ (List.mem_append_right _ h)) hown hK.1 hP 0 rfl rfl 2 (by decide) (hts (.fieldLink RX4 9 "LieNightsModel" "sorts" "[I") (List.mem_of_getElem? (i := 1) rfl)) (fun _ h9 => h9) rfl dX4_lose_10 ?_
    refine lv_iload_n hx hb dX4_lose_13 rfl (lv_at hl 1 rfl) ?_
    refine va_iald hx hb hK.1 hP 1 0 rfl rfl (mSh c4) dX4_lose_14 ?_
    refine lv_bipush (v := (-9)) hx hb dX4_lose_15 (by decide) ?_
    refine lv_icmp_ne (tgt := 24) hx hb dX4_lose_17 (by decide) (fun c17 => ?_) (fun c17 => ?_)
    · skip
      refine lv_iconst (v := 1) hx hb dX4_lose_24 (by decide) ?_
      refine lv_istore_n (lv' := [(2, .int 1), (0, .ref h), (1, .int sh)]) hx hb dX4_lose_25 rfl hl (by decide) rfl (fun ls hl => ?_)
      refine lv_aload_n hx hb dX4_lose_26 rfl (lv_at hl 1 rfl) ?_
      refine va_get (D := D) (ci := 4) (v := .ref m1) (C := RX4) (T := TX4) (N := 23) hx hb hts (fun _ h => List.mem_cons_of_mem _ (List.mem_append_right _ h)) hown hK.1 hP 0 rfl rfl 2 (by decide) (hts (.fieldLink RX4 9 "LieNightsModel" "sorts" "[I") (List.mem_of_getElem? (i := 1) rfl)) (fun _ h9 => h9) rfl dX4_lose_27 ?_
      refine lv_iload_n hx hb dX4_lose_30 rfl (lv_at hl 2 rfl) ?_
      refine lv_bipush (v := (-9)) hx hb dX4_lose_31 (by decide) ?_
      refine va_iast hx hb hK.1 hP hD hS 1 0 rfl rfl (mSh c4) dX4_lose_33 (fun H locs hP hD hS => ?_)
      have hP : va_P D vwCl (wMo cI h m1 m2 m3 m4 m5 m6 m7 m8 m9 m10 m11 m12 m13 lf tr an pn gr ax ra rp rg rd (upd so sh.toNatClampNeg (-9)) sl ces kd pl wt xk xp xw wo su ask shw) H := hP
      have hD : va_D A (wMo cI h m1 m2 m3 m4 m5 m6 m7 m8 m9 m10 m11 m12 m13 lf tr an pn gr ax ra rp rg rd (upd so sh.toNatClampNeg (-9)) sl ces kd pl wt xk xp xw wo su ask shw) := hD
      refine lv_iload_n hx hb dX4_lose_34 rfl (lv_at hl 0 rfl) ?_
      have hR1 : (fX4_lose so sh) = (1, (upd so sh.toNatClampNeg (-9))) := (by unfold fX4_lose; rw [if_neg c4, if_neg c17])
      rw [hQ]
      exact W.iret (v := 1) hx hb hr (fun t ht hW => ⟨⟨_, (), rfl, (by show _ = _; rw [hR1]), (by show va_P D vwCl _ t.heap; rw [hR1, ht]; exact hP)⟩, hS.F ht⟩) hS.2.2 dX4_lose_35
    refine lv_iconst (v := 0) hx hb dX4_lose_20 (by decide) ?_
    refine lv_goto (tgt := 25) hx hb dX4_lose_21 (by decide) ?_
    refine lv_istore_n (lv' := [(2, .int 0), (0, .ref h), (1, .int sh)]) hx hb dX4_lose_25 rfl hl (by decide) rfl (fun ls hl => ?_)
    refine lv_aload_n hx hb dX4_lose_26 rfl (lv_at hl 1 rfl) ?_
    refine va_get (D := D) (ci := 4) (v := .ref m1) (C := RX4) (T := TX4) (N := 23) hx hb hts (fun _ h => List.mem_cons_of_mem _ (List.mem_append_right _ h)) hown hK.1 hP 0 rfl rfl 2 (by decide) (hts (.fieldLink RX4 9 "LieNightsModel" "sorts" "[I") (List.mem_of_getElem? (i := 1) rfl)) (fun _ h9 => h9) rfl dX4_lose_27 ?_
    refine lv_iload_n hx hb dX4_lose_30 rfl (lv_at hl 2 rfl) ?_
    refine lv_bipush (v := (-9)) hx hb dX4_lose_31 (by decide) ?_
    refine va_iast hx hb hK.1 hP hD hS 1 0 rfl rfl (mSh c4) dX4_lose_33 (fun H locs hP hD hS => ?_)
    have hP : va_P D vwCl (wMo cI h m1 m2 m3 m4 m5 m6 m7 m8 m9 m10 m11 m12 m13 lf tr an pn gr ax ra rp rg rd (upd so sh.toNatClampNeg (-9)) sl ces kd pl wt xk xp xw wo su ask shw) H := hP
    have hD : va_D A (wMo cI h m1 m2 m3 m4 m5 m6 m7 m8 m9 m10 m11 m12 m13 lf tr an pn gr ax ra rp rg rd (upd so sh.toNatClampNeg (-9)) sl ces kd pl wt xk xp xw wo su ask shw) := hD
    refine lv_iload_n hx hb dX4_lose_34 rfl (lv_at hl 0 rfl) ?_
    have hR2 : (fX4_lose so sh) = (0, (upd so sh.toNatClampNeg (-9))) := (by unfold fX4_lose; rw [if_neg c4, if_pos c17])
    rw [hQ]
    exact W.iret (v := 0) hx hb hr (fun t ht hW => ⟨⟨_, (), rfl, (by show _ = _; rw [hR2]), (by show va_P D vwCl _ t.heap; rw [hR2, ht]; exact hP)⟩, hS.F ht⟩) hS.2.2 dX4_lose_35
  refine lv_iconst (v := (-1)) hx hb dX4_lose_7 (by decide) ?_
  have hR3 : (fX4_lose so sh) = ((-1), so) := (by unfold fX4_lose; rw [if_pos c4])
  rw [hQ]
  exact W.iret (v := (-1)) hx hb hr (fun t ht hW => ⟨⟨_, (), rfl, (by show _ = _; rw [hR3]), (by show va_P D vwCl _ t.heap; rw [hR3, ht]; exact hP)⟩, hS.F ht⟩) hS.2.2 dX4_lose_8

def fX4_put (so sl ces : Nat → Int32) (sh i v : Int32) : Int32 × Int32 × (Nat → Int32) := (if (fX4_isSheet sh) = 0 then ((-1), 0, ces) else (if (so sh.toNatClampNeg) = (-9) then (((-10) - 1), 1, ces) else (if (fX4_within i 0 ((sl sh.toNatClampNeg) - 1)) = 0 then (((-10) - 3), 3, ces) else (if (so sh.toNatClampNeg) = 0 then (1, 0, (upd ces (((60 * sh) + i).toNatClampNeg) (v.toInt8.toInt32))) else (if (so sh.toNatClampNeg) = 1 then (1, 0, (upd ces (((60 * sh) + i).toNatClampNeg) (v.toInt16.toInt32))) else (1, 0, (upd ces (((60 * sh) + i).toNatClampNeg) v)))))))
theorem q_X4_put : yX4_put.cls = RX4 ∧ yX4_put.cls ≠ "java/lang/invoke/MethodHandle" ∧ yX4_put.cls ≠ "java/lang/invoke/VarHandle" ∧ (parseMethodDescriptor yX4_put.desc).map (fun d => d.parameters.length) = some 3 := by decide +kernel
set_option maxHeartbeats 4000000 in
set_option maxRecDepth 100000 in
theorem c_X4_put (l : Launch) (D : va_G) (cI cS : ClassId) (h m1 m2 m3 m4 m5 m6 m7 m8 m9 m10 m11 m12 m13 : Nat) (lf tr an pn gr ax ra rp rg rd : Int32) (so sl ces kd pl wt xk xp xw wo su ask shw : Nat → Int32) (sh i v : Int32) (hsl : ∀ j, j < 4 → ∃ L : Nat, sl j = nI L ∧ L ≤ 60) : MMi l yX4_put wsX4_put { frames := 2, cells := 0, slots := 0, locals := 42 } D cI cS (wMo cI h m1 m2 m3 m4 m5 m6 m7 m8 m9 m10 m11 m12 m13 lf tr an pn gr ax ra rp rg rd so sl ces kd pl wt xk xp xw wo su ask shw) [.ref h, .int sh, .int i, .int v] ((fX4_put so sl ces sh i v).1) (wMo cI h m1 m2 m3 m4 m5 m6 m7 m8 m9 m10 m11 m12 m13 ((fX4_put so sl ces sh i v).2.1) tr an pn gr ax ra rp rg rd so sl ((fX4_put so sl ces sh i v).2.2) kd pl wt xk xp xw wo su ask shw) := by
  refine kEnterM (cc := cX4_put) (maxL := 4) (ret := (some .int)) (by decide) rfl (Nat.le_of_ble_eq_true rfl) ?_
  intro p e s m below meth c ls Qf hQ hx hb hml hr hlocks hown hts hK hP hD hS hl
  have hown : s.vm.findClass RX4 = some m.cls := hown
  have hl : lv_has ls 4 [(0, .ref h), (1, .int sh), (2, .int i), (3, .int v)] := hl
  generalize kA (wMo cI h m1 m2 m3 m4 m5 m6 m7 m8 m9 m10 m11 m12 m13 lf tr an pn gr ax ra rp rg rd so sl ces kd pl wt xk xp xw wo su ask shw) = A at hQ hD hS
  refine lv_aload_n hx hb dX4_put_0 rfl (lv_at hl 0 rfl) ?_
  refine lv_iconst (v := 0) hx hb dX4_put_1 (by decide) ?_
  refine va_put (D := D) (ci := 4) (v := .int 0) (ty := tyX4 0) (C := RX4) (T := TX4) (N := 23) hx hb hts (fun _ h => List.mem_cons_of_mem _ (List.mem_append_right _ h)) tyX4 tyX4_ok nmX4 hown hK.1 hP hD hS 0 rfl rfl 0 (by decide) (hts (.fieldLink RX4 49 "LieNightsModel" "fault" "I") (List.mem_of_getElem? (i := 1) rfl)) (fun _ h9 => h9) rfl (tyX4_ok 0 (by decide)) rfl rfl (Nat.le_of_ble_eq_true rfl) dX4_put_2 (fun H locs hP hD hS => ?_)
  have hP : va_P D vwCl (wMo cI h m1 m2 m3 m4 m5 m6 m7 m8 m9 m10 m11 m12 m13 0 tr an pn gr ax ra rp rg rd so sl ces kd pl wt xk xp xw wo su ask shw) H := hP
  have hD : va_D A (wMo cI h m1 m2 m3 m4 m5 m6 m7 m8 m9 m10 m11 m12 m13 0 tr an pn gr ax ra rp rg rd so sl ces kd pl wt xk xp xw wo su ask shw) := hD
  refine lv_iload_n hx hb dX4_put_5 rfl (lv_at hl 1 rfl) ?_
  refine kPi (va_runS (As := [.int sh]) (rest := []) ⟨hx, hb, hml, hown, hts⟩ (c_X4_isSheet l D cI cS sh) (va_cwS 1 hts gX4_put_X4_isSheet rfl rfl rfl q_X4_isSheet.2 ⟨Nat.le_of_ble_eq_true rfl, Nat.le_of_ble_eq_true rfl⟩) (kPS hK hP [] rfl [.int sh]) rfl rfl hl.1 rfl (lv_room (Nat.le_of_ble_eq_true rfl)) dX4_put_6 ⟨Nat.zero_le _, Nat.zero_le _⟩) ?_
  refine lv_if_ne (tgt := 14) hx hb dX4_put_9 (by decide) (fun c9 => ?_) (fun c9 => ?_)
  · skip
    refine lv_aload_n hx hb dX4_put_14 rfl (lv_at hl 0 rfl) ?_
    refine va_get (D := D) (ci := 4) (v := .ref m1) (C := RX4) (T := TX4) (N := 23) hx hb hts (fun _ h => List.mem_cons_of_mem _ (List.mem_append_right _ h)) hown hK.1 hP 0 rfl rfl 2 (by decide) (hts (.fieldLink RX4 9 "LieNightsModel" "sorts" "[I") (List.mem_of_getElem? (i := 2) rfl)) (fun _ h9 => h9) rfl dX4_put_15 ?_
    refine lv_iload_n hx hb dX4_put_18 rfl (lv_at hl 1 rfl) ?_
    refine va_iald hx hb hK.1 hP 1 0 rfl rfl (mSh c9) dX4_put_19 ?_
    refine lv_bipush (v := (-9)) hx hb dX4_put_20 (by decide) ?_
    refine lv_icmp_ne (tgt := 31) hx hb dX4_put_22 (by decide) (fun c22 => ?_) (fun c22 => ?_)
    · skip
      refine lv_iload_n hx hb dX4_put_31 rfl (lv_at hl 2 rfl) ?_
      refine lv_iconst (v := 0) hx hb dX4_put_32 (by decide) ?_
      refine lv_aload_n hx hb dX4_put_33 rfl (lv_at hl 0 rfl) ?_
      refine va_get (D := D) (ci := 4) (v := .ref m2) (C := RX4) (T := TX4) (N := 23) hx hb hts (fun _ h => List.mem_cons_of_mem _ (List.mem_append_right _ h)) hown hK.1 hP 0 rfl rfl 3 (by decide) (hts (.fieldLink RX4 13 "LieNightsModel" "sheetLong" "[I") (List.mem_of_getElem? (i := 3) rfl)) (fun _ h9 => h9) rfl dX4_put_34 ?_
      refine lv_iload_n hx hb dX4_put_37 rfl (lv_at hl 1 rfl) ?_
      refine va_iald hx hb hK.1 hP 2 0 rfl rfl (mSh c9) dX4_put_38 ?_
      refine lv_iconst (v := 1) hx hb dX4_put_39 (by decide) ?_
      refine lv_isub hx hb dX4_put_40 ?_
      refine kPi (va_runS (As := [.int i, .int 0, .int ((sl sh.toNatClampNeg) - 1)]) (rest := []) ⟨hx, hb, hml, hown, hts⟩ (c_X4_within l D cI cS i 0 ((sl sh.toNatClampNeg) - 1)) (va_cwS 3 hts gX4_put_X4_within rfl rfl rfl q_X4_within.2 ⟨Nat.le_of_ble_eq_true rfl, Nat.le_of_ble_eq_true rfl⟩) (kPS hK hP [] rfl [.int i, .int 0, .int ((sl sh.toNatClampNeg) - 1)]) rfl rfl hl.1 rfl (lv_room (Nat.le_of_ble_eq_true rfl)) dX4_put_41 ⟨Nat.zero_le _, Nat.zero_le _⟩) ?_
      refine lv_if_ne (tgt := 53) hx hb dX4_put_44 (by decide) (fun c44 => ?_) (fun c44 => ?_)
      · skip
        refine lv_aload_n hx hb dX4_put_53 rfl (lv_at hl 0 rfl) ?_
        refine va_get (D := D) (ci := 4) (v := .ref m3) (C := RX4) (T := TX4) (N := 23) hx hb hts (fun _ h => List.mem_cons_of_mem _ (List.mem_append_right _ h)) hown hK.1 hP 0 rfl rfl 4 (by decide) (hts (.fieldLink RX4 16 "LieNightsModel" "cells" "[I") (List.mem_of_getElem? (i := 4) rfl)) (fun _ h9 => h9) rfl dX4_put_54 ?_
        refine lv_bipush (v := 60) hx hb dX4_put_57 (by decide) ?_
        refine lv_iload_n hx hb dX4_put_59 rfl (lv_at hl 1 rfl) ?_
        refine lv_imul hx hb dX4_put_60 ?_
        refine lv_iload_n hx hb dX4_put_61 rfl (lv_at hl 2 rfl) ?_
        refine lv_iadd hx hb dX4_put_62 ?_
        refine lv_aload_n hx hb dX4_put_63 rfl (lv_at hl 0 rfl) ?_
        refine va_get (D := D) (ci := 4) (v := .ref m1) (C := RX4) (T := TX4) (N := 23) hx hb hts (fun _ h => List.mem_cons_of_mem _ (List.mem_append_right _ h)) hown hK.1 hP 0 rfl rfl 2 (by decide) (hts (.fieldLink RX4 9 "LieNightsModel" "sorts" "[I") (List.mem_of_getElem? (i := 2) rfl)) (fun _ h9 => h9) rfl dX4_put_64 ?_
        refine lv_iload_n hx hb dX4_put_67 rfl (lv_at hl 1 rfl) ?_
        refine va_iald hx hb hK.1 hP 1 0 rfl rfl (mSh c9) dX4_put_68 ?_
        refine lv_if_ne (tgt := 77) hx hb dX4_put_69 (by decide) (fun c69 => ?_) (fun c69 => ?_)
        · skip
          refine lv_aload_n hx hb dX4_put_77 rfl (lv_at hl 0 rfl) ?_
          refine va_get (D := D) (ci := 4) (v := .ref m1) (C := RX4) (T := TX4) (N := 23) hx hb hts (fun _ h => List.mem_cons_of_mem _ (List.mem_append_right _ h)) hown hK.1 hP 0 rfl rfl 2 (by decide) (hts (.fieldLink RX4 9 "LieNightsModel" "sorts" "[I") (List.mem_of_getElem? (i := 2) rfl)) (fun _ h9 => h9) rfl dX4_put_78 ?_
          refine lv_iload_n hx hb dX4_put_81 rfl (lv_at hl 1 rfl) ?_
          refine va_iald hx hb hK.1 hP 1 0 rfl rfl (mSh c9) dX4_put_82 ?_
          refine lv_iconst (v := 1) hx hb dX4_put_83 (by decide) ?_
          refine lv_icmp_ne (tgt := 92) hx hb dX4_put_84 (by decide) (fun c84 => ?_) (fun c84 => ?_)
          · skip
            refine lv_iload_n hx hb dX4_put_92 rfl (lv_at hl 3 rfl) ?_
            refine va_iast hx hb hK.1 hP hD hS 3 0 rfl rfl (mPt hsl (mSh c9) c44).1 dX4_put_93 (fun H locs hP hD hS => ?_)
            have hP : va_P D vwCl (wMo cI h m1 m2 m3 m4 m5 m6 m7 m8 m9 m10 m11 m12 m13 0 tr an pn gr ax ra rp rg rd so sl (upd ces (((60 * sh) + i).toNatClampNeg) v) kd pl wt xk xp xw wo su ask shw) H := hP
            have hD : va_D A (wMo cI h m1 m2 m3 m4 m5 m6 m7 m8 m9 m10 m11 m12 m13 0 tr an pn gr ax ra rp rg rd so sl (upd ces (((60 * sh) + i).toNatClampNeg) v) kd pl wt xk xp xw wo su ask shw) := hD
            refine lv_iconst (v := 1) hx hb dX4_put_94 (by decide) ?_
            have hR1 : (fX4_put so sl ces sh i v) = (1, 0, (upd ces (((60 * sh) + i).toNatClampNeg) v)) := (by unfold fX4_put; rw [if_neg c9, if_neg c22, if_neg c44, if_neg c69, if_neg c84])
            rw [hQ]
            exact W.iret (v := 1) hx hb hr (fun t ht hW => ⟨⟨_, (), rfl, (by show _ = _; rw [hR1]), (by show va_P D vwCl _ t.heap; rw [hR1, ht]; exact hP)⟩, hS.F ht⟩) hS.2.2 dX4_put_95
          refine lv_iload_n hx hb dX4_put_87 rfl (lv_at hl 3 rfl) ?_
          refine lv_i2s (v := v.toInt16.toInt32) hx hb dX4_put_88 rfl ?_
          refine lv_goto (tgt := 93) hx hb dX4_put_89 (by decide) ?_
          refine va_iast hx hb hK.1 hP hD hS 3 0 rfl rfl (mPt hsl (mSh c9) c44).1 dX4_put_93 (fun H locs hP hD hS => ?_)
          have hP : va_P D vwCl (wMo cI h m1 m2 m3 m4 m5 m6 m7 m8 m9 m10 m11 m12 m13 0 tr an pn gr ax ra rp rg rd so sl (upd ces (((60 * sh) + i).toNatClampNeg) (v.toInt16.toInt32)) kd pl wt xk xp xw wo su ask shw) H := hP
          have hD : va_D A (wMo cI h m1 m2 m3 m4 m5 m6 m7 m8 m9 m10 m11 m12 m13 0 tr an pn gr ax ra rp rg rd so sl (upd ces (((60 * sh) + i).toNatClampNeg) (v.toInt16.toInt32)) kd pl wt xk xp xw wo su ask shw) := hD
          refine lv_iconst (v := 1) hx hb dX4_put_94 (by decide) ?_
          have hR2 : (fX4_put so sl ces sh i v) = (1, 0, (upd ces (((60 * sh) + i).toNatClampNeg) (v.toInt16.toInt32))) := (by unfold fX4_put; rw [if_neg c9, if_neg c22, if_neg c44, if_neg c69, if_pos c84])
          rw [hQ]
          exact W.iret (v := 1) hx hb hr (fun t ht hW => ⟨⟨_, (), rfl, (by show _ = _; rw [hR2]), (by show va_P D vwCl _ t.heap; rw [hR2, ht]; exact hP)⟩, hS.F ht⟩) hS.2.2 dX4_put_95
        refine lv_iload_n hx hb dX4_put_72 rfl (lv_at hl 3 rfl) ?_
        refine lv_i2b (v := v.toInt8.toInt32) hx hb dX4_put_73 rfl ?_
        refine lv_goto (tgt := 93) hx hb dX4_put_74 (by decide) ?_
        refine va_iast hx hb hK.1 hP hD hS 3 0 rfl rfl (mPt hsl (mSh c9) c44).1 dX4_put_93 (fun H locs hP hD hS => ?_)
        have hP : va_P D vwCl (wMo cI h m1 m2 m3 m4 m5 m6 m7 m8 m9 m10 m11 m12 m13 0 tr an pn gr ax ra rp rg rd so sl (upd ces (((60 * sh) + i).toNatClampNeg) (v.toInt8.toInt32)) kd pl wt xk xp xw wo su ask shw) H := hP
        have hD : va_D A (wMo cI h m1 m2 m3 m4 m5 m6 m7 m8 m9 m10 m11 m12 m13 0 tr an pn gr ax ra rp rg rd so sl (upd ces (((60 * sh) + i).toNatClampNeg) (v.toInt8.toInt32)) kd pl wt xk xp xw wo su ask shw) := hD
        refine lv_iconst (v := 1) hx hb dX4_put_94 (by decide) ?_
        have hR3 : (fX4_put so sl ces sh i v) = (1, 0, (upd ces (((60 * sh) + i).toNatClampNeg) (v.toInt8.toInt32))) := (by unfold fX4_put; rw [if_neg c9, if_neg c22, if_neg c44, if_pos c69])
        rw [hQ]
        exact W.iret (v := 1) hx hb hr (fun t ht hW => ⟨⟨_, (), rfl, (by show _ = _; rw [hR3]), (by show va_P D vwCl _ t.heap; rw [hR3, ht]; exact hP)⟩, hS.F ht⟩) hS.2.2 dX4_put_95
      refine lv_aload_n hx hb dX4_put_47 rfl (lv_at hl 0 rfl) ?_
      refine lv_iconst (v := 3) hx hb dX4_put_48 (by decide) ?_
      refine kMi (wl' := (wMo cI h m1 m2 m3 m4 m5 m6 m7 m8 m9 m10 m11 m12 m13 3 tr an pn gr ax ra rp rg rd so sl ces kd pl wt xk xp xw wo su ask shw)) (wc := (wMo cI h m1 m2 m3 m4 m5 m6 m7 m8 m9 m10 m11 m12 m13 0 tr an pn gr ax ra rp rg rd so sl ces kd pl wt xk xp xw wo su ask shw)) (w1 := (wMo cI h m1 m2 m3 m4 m5 m6 m7 m8 m9 m10 m11 m12 m13 3 tr an pn gr ax ra rp rg rd so sl ces kd pl wt xk xp xw wo su ask shw)) hP hD hS [0, 1, 2, 3, 4, 5, 6, 7, 8, 9, 10, 11, 12, 13] rfl rfl rfl (va_runV (As := [.int 3]) (rest := []) ⟨hx, hb, hml, hown, hts⟩ (c_X4_fails l D cI cS h m1 m2 m3 m4 m5 m6 m7 m8 m9 m10 m11 m12 m13 0 tr an pn gr ax ra rp rg rd so sl ces kd pl wt xk xp xw wo su ask shw 3) (cwV 1 hts gX4_put_X4_fails rfl rfl rfl q_X4_fails ⟨Nat.le_of_ble_eq_true rfl, Nat.le_of_ble_eq_true rfl⟩) (kMV hK hP hD [0, 1, 2, 3, 4, 5, 6, 7, 8, 9, 10, 11, 12, 13] rfl rfl (va_recv hK.1 hP (ci := 4) (q0 := 0) rfl rfl) [.int 3]) rfl rfl hl.1 rfl (lv_room (Nat.le_of_ble_eq_true rfl)) dX4_put_49 ⟨Nat.zero_le _, Nat.zero_le _⟩) (fun H locs hP hD hS => ?_)
      have hR4 : (fX4_put so sl ces sh i v) = (((-10) - 3), 3, ces) := (by unfold fX4_put; rw [if_neg c9, if_neg c22, if_pos c44])
      rw [hQ]
      exact W.iret (v := ((-10) - 3)) hx hb hr (fun t ht hW => ⟨⟨_, (), rfl, (by show _ = _; rw [hR4]), (by show va_P D vwCl _ t.heap; rw [hR4, ht]; exact hP)⟩, hS.F ht⟩) hS.2.2 dX4_put_52
    refine lv_aload_n hx hb dX4_put_25 rfl (lv_at hl 0 rfl) ?_
    refine lv_iconst (v := 1) hx hb dX4_put_26 (by decide) ?_
    refine kMi (wl' := (wMo cI h m1 m2 m3 m4 m5 m6 m7 m8 m9 m10 m11 m12 m13 1 tr an pn gr ax ra rp rg rd so sl ces kd pl wt xk xp xw wo su ask shw)) (wc := (wMo cI h m1 m2 m3 m4 m5 m6 m7 m8 m9 m10 m11 m12 m13 0 tr an pn gr ax ra rp rg rd so sl ces kd pl wt xk xp xw wo su ask shw)) (w1 := (wMo cI h m1 m2 m3 m4 m5 m6 m7 m8 m9 m10 m11 m12 m13 1 tr an pn gr ax ra rp rg rd so sl ces kd pl wt xk xp xw wo su ask shw)) hP hD hS [0, 1, 2, 3, 4, 5, 6, 7, 8, 9, 10, 11, 12, 13] rfl rfl rfl (va_runV (As := [.int 1]) (rest := []) ⟨hx, hb, hml, hown, hts⟩ (c_X4_fails l D cI cS h m1 m2 m3 m4 m5 m6 m7 m8 m9 m10 m11 m12 m13 0 tr an pn gr ax ra rp rg rd so sl ces kd pl wt xk xp xw wo su ask shw 1) (cwV 1 hts gX4_put_X4_fails rfl rfl rfl q_X4_fails ⟨Nat.le_of_ble_eq_true rfl, Nat.le_of_ble_eq_true rfl⟩) (kMV hK hP hD [0, 1, 2, 3, 4, 5, 6, 7, 8, 9, 10, 11, 12, 13] rfl rfl (va_recv hK.1 hP (ci := 4) (q0 := 0) rfl rfl) [.int 1]) rfl rfl hl.1 rfl (lv_room (Nat.le_of_ble_eq_true rfl)) dX4_put_27 ⟨Nat.zero_le _, Nat.zero_le _⟩) (fun H locs hP hD hS => ?_)
    have hR5 : (fX4_put so sl ces sh i v) = (((-10) - 1), 1, ces) := (by unfold fX4_put; rw [if_neg c9, if_pos c22])
    rw [hQ]
    exact W.iret (v := ((-10) - 1)) hx hb hr (fun t ht hW => ⟨⟨_, (), rfl, (by show _ = _; rw [hR5]), (by show va_P D vwCl _ t.heap; rw [hR5, ht]; exact hP)⟩, hS.F ht⟩) hS.2.2 dX4_put_30
  refine lv_iconst (v := (-1)) hx hb dX4_put_12 (by decide) ?_
  have hR6 : (fX4_put so sl ces sh i v) = ((-1), 0, ces) := (by unfold fX4_put; rw [if_pos c9])
  rw [hQ]
  exact W.iret (v := (-1)) hx hb hr (fun t ht hW => ⟨⟨_, (), rfl, (by show _ = _; rw [hR6]), (by show va_P D vwCl _ t.heap; rw [hR6, ht]; exact hP)⟩, hS.F ht⟩) hS.2.2 dX4_put_13

def fX4_cell (so sl ces : Nat → Int32) (sh i ln : Int32) : Int64 × Int32 := (if (fX4_isSheet sh) = 0 then ((-9223372036854775808), 0) else (if (fX4_isSort ln) = 0 then ((-9223372036854775808), 0) else (if (so sh.toNatClampNeg) = (-9) then ((-9223372036854775808), 1) else (if (so sh.toNatClampNeg) = ln then (if (fX4_within i 0 ((sl sh.toNatClampNeg) - 1)) = 0 then ((-9223372036854775808), 3) else ((Int32.toInt64 (ces ((60 * sh) + i).toNatClampNeg)), 0)) else ((-9223372036854775808), 2)))))
theorem q_X4_cell : yX4_cell.cls = RX4 ∧ yX4_cell.cls ≠ "java/lang/invoke/MethodHandle" ∧ yX4_cell.cls ≠ "java/lang/invoke/VarHandle" ∧ (parseMethodDescriptor yX4_cell.desc).map (fun d => d.parameters.length) = some 3 := by decide +kernel
set_option maxHeartbeats 4000000 in
set_option maxRecDepth 100000 in
theorem c_X4_cell (l : Launch) (D : va_G) (cI cS : ClassId) (h m1 m2 m3 m4 m5 m6 m7 m8 m9 m10 m11 m12 m13 : Nat) (lf tr an pn gr ax ra rp rg rd : Int32) (so sl ces kd pl wt xk xp xw wo su ask shw : Nat → Int32) (sh i ln : Int32) (hsl : ∀ j, j < 4 → ∃ L : Nat, sl j = nI L ∧ L ≤ 60) : MMl l yX4_cell wsX4_cell { frames := 2, cells := 0, slots := 0, locals := 42 } D cI cS (wMo cI h m1 m2 m3 m4 m5 m6 m7 m8 m9 m10 m11 m12 m13 lf tr an pn gr ax ra rp rg rd so sl ces kd pl wt xk xp xw wo su ask shw) [.ref h, .int sh, .int i, .int ln] ((fX4_cell so sl ces sh i ln).1) (wMo cI h m1 m2 m3 m4 m5 m6 m7 m8 m9 m10 m11 m12 m13 ((fX4_cell so sl ces sh i ln).2) tr an pn gr ax ra rp rg rd so sl ces kd pl wt xk xp xw wo su ask shw) := by
  refine kEnterM (cc := cX4_cell) (maxL := 4) (ret := (some .long)) (by decide) rfl (Nat.le_of_ble_eq_true rfl) ?_
  intro p e s m below meth c ls Qf hQ hx hb hml hr hlocks hown hts hK hP hD hS hl
  have hown : s.vm.findClass RX4 = some m.cls := hown
  have hl : lv_has ls 4 [(0, .ref h), (1, .int sh), (2, .int i), (3, .int ln)] := hl
  generalize kA (wMo cI h m1 m2 m3 m4 m5 m6 m7 m8 m9 m10 m11 m12 m13 lf tr an pn gr ax ra rp rg rd so sl ces kd pl wt xk xp xw wo su ask shw) = A at hQ hD hS
  refine lv_aload_n hx hb dX4_cell_0 rfl (lv_at hl 0 rfl) ?_
  refine lv_iconst (v := 0) hx hb dX4_cell_1 (by decide) ?_
  refine va_put (D := D) (ci := 4) (v := .int 0) (ty := tyX4 0) (C := RX4) (T := TX4) (N := 23) hx hb hts (fun _ h => List.mem_cons_of_mem _ (List.mem_append_right _ h)) tyX4 tyX4_ok nmX4 hown hK.1 hP hD hS 0 rfl rfl 0 (by decide) (hts (.fieldLink RX4 49 "LieNightsModel" "fault" "I") (List.mem_of_getElem? (i := 1) rfl)) (fun _ h9 => h9) rfl (tyX4_ok 0 (by decide)) rfl rfl (Nat.le_of_ble_eq_true rfl) dX4_cell_2 (fun H locs hP hD hS => ?_)
  have hP : va_P D vwCl (wMo cI h m1 m2 m3 m4 m5 m6 m7 m8 m9 m10 m11 m12 m13 0 tr an pn gr ax ra rp rg rd so sl ces kd pl wt xk xp xw wo su ask shw) H := hP
  have hD : va_D A (wMo cI h m1 m2 m3 m4 m5 m6 m7 m8 m9 m10 m11 m12 m13 0 tr an pn gr ax ra rp rg rd so sl ces kd pl wt xk xp xw wo su ask shw) := hD
  refine lv_iload_n hx hb dX4_cell_5 rfl (lv_at hl 1 rfl) ?_
  refine kPi (va_runS (As := [.int sh]) (rest := []) ⟨hx, hb, hml, hown, hts⟩ (c_X4_isSheet l D cI cS sh) (va_cwS 1 hts gX4_cell_X4_isSheet rfl rfl rfl q_X4_isSheet.2 ⟨Nat.le_of_ble_eq_true rfl, Nat.le_of_ble_eq_true rfl⟩) (kPS hK hP [] rfl [.int sh]) rfl rfl hl.1 rfl (lv_room (Nat.le_of_ble_eq_true rfl)) dX4_cell_6 ⟨Nat.zero_le _, Nat.zero_le _⟩) ?_
  refine lv_if_eq (tgt := 19) hx hb dX4_cell_9 (by decide) (fun c9 => ?_) (fun c9 => ?_)
  · skip
    refine lv_ldc2 hx hb hown (hts (.constantLong RX4 53 (-9223372036854775808)) (List.mem_of_getElem? (i := 2) rfl)) dX4_cell_19 ?_
    have hR1 : (fX4_cell so sl ces sh i ln) = ((-9223372036854775808), 0) := (by unfold fX4_cell; rw [if_pos c9])
    rw [hQ]
    exact W.lret (v := (-9223372036854775808)) hx hb hr (fun t ht hW => ⟨⟨_, (), rfl, (by show _ = _; rw [hR1]), (by show va_P D vwCl _ t.heap; rw [hR1, ht]; exact hP)⟩, hS.F ht⟩) hS.2.2 dX4_cell_22
  refine lv_iload_n hx hb dX4_cell_12 rfl (lv_at hl 3 rfl) ?_
  refine kPi (va_runS (As := [.int ln]) (rest := []) ⟨hx, hb, hml, hown, hts⟩ (c_X4_isSort l D cI cS ln) (va_cwS 1 hts gX4_cell_X4_isSort rfl rfl rfl q_X4_isSort.2 ⟨Nat.le_of_ble_eq_true rfl, Nat.le_of_ble_eq_true rfl⟩) (kPS hK hP [] rfl [.int ln]) rfl rfl hl.1 rfl (lv_room (Nat.le_of_ble_eq_true rfl)) dX4_cell_13 ⟨Nat.zero_le _, Nat.zero_le _⟩) ?_
  refine lv_if_ne (tgt := 23) hx hb dX4_cell_16 (by decide) (fun c16 => ?_) (fun c16 => ?_)
  · skip
    refine lv_aload_n hx hb dX4_cell_23 rfl (lv_at hl 0 rfl) ?_
    refine va_get (D := D) (ci := 4) (v := .ref m1) (C := RX4) (T := TX4) (N := 23) hx hb hts (fun _ h => List.mem_cons_of_mem _ (List.mem_append_right _ h)) hown hK.1 hP 0 rfl rfl 2 (by decide) (hts (.fieldLink RX4 9 "LieNightsModel" "sorts" "[I") (List.mem_of_getElem? (i := 3) rfl)) (fun _ h9 => h9) rfl dX4_cell_24 ?_
    refine lv_iload_n hx hb dX4_cell_27 rfl (lv_at hl 1 rfl) ?_
    refine va_iald hx hb hK.1 hP 1 0 rfl rfl (mSh c9) dX4_cell_28 ?_
    refine lv_bipush (v := (-9)) hx hb dX4_cell_29 (by decide) ?_
    refine lv_icmp_eq (tgt := 50) hx hb dX4_cell_31 (by decide) (fun c31 => ?_) (fun c31 => ?_)
    · skip
      refine lv_aload_n hx hb dX4_cell_50 rfl (lv_at hl 0 rfl) ?_
      refine va_get (D := D) (ci := 4) (v := .ref m1) (C := RX4) (T := TX4) (N := 23) hx hb hts (fun _ h => List.mem_cons_of_mem _ (List.mem_append_right _ h)) hown hK.1 hP 0 rfl rfl 2 (by decide) (hts (.fieldLink RX4 9 "LieNightsModel" "sorts" "[I") (List.mem_of_getElem? (i := 3) rfl)) (fun _ h9 => h9) rfl dX4_cell_51 ?_
      refine lv_iload_n hx hb dX4_cell_54 rfl (lv_at hl 1 rfl) ?_
      refine va_iald hx hb hK.1 hP 1 0 rfl rfl (mSh c9) dX4_cell_55 ?_
      refine lv_bipush (v := (-9)) hx hb dX4_cell_56 (by decide) ?_
      refine lv_icmp_ne (tgt := 67) hx hb dX4_cell_58 (by decide) (fun c58 => ?_) (fun c58 => ?_)
      · exact absurd c31 c58
      refine lv_aload_n hx hb dX4_cell_61 rfl (lv_at hl 0 rfl) ?_
      refine lv_iconst (v := 1) hx hb dX4_cell_62 (by decide) ?_
      refine kMl (wl' := (wMo cI h m1 m2 m3 m4 m5 m6 m7 m8 m9 m10 m11 m12 m13 1 tr an pn gr ax ra rp rg rd so sl ces kd pl wt xk xp xw wo su ask shw)) (wc := (wMo cI h m1 m2 m3 m4 m5 m6 m7 m8 m9 m10 m11 m12 m13 0 tr an pn gr ax ra rp rg rd so sl ces kd pl wt xk xp xw wo su ask shw)) (w1 := (wMo cI h m1 m2 m3 m4 m5 m6 m7 m8 m9 m10 m11 m12 m13 1 tr an pn gr ax ra rp rg rd so sl ces kd pl wt xk xp xw wo su ask shw)) hP hD hS [0, 1, 2, 3, 4, 5, 6, 7, 8, 9, 10, 11, 12, 13] rfl rfl rfl (va_runV (As := [.int 1]) (rest := []) ⟨hx, hb, hml, hown, hts⟩ (c_X4_lost l D cI cS h m1 m2 m3 m4 m5 m6 m7 m8 m9 m10 m11 m12 m13 0 tr an pn gr ax ra rp rg rd so sl ces kd pl wt xk xp xw wo su ask shw 1) (cwV 1 hts gX4_cell_X4_lost rfl rfl rfl q_X4_lost ⟨Nat.le_of_ble_eq_true rfl, Nat.le_of_ble_eq_true rfl⟩) (kMV hK hP hD [0, 1, 2, 3, 4, 5, 6, 7, 8, 9, 10, 11, 12, 13] rfl rfl (va_recv hK.1 hP (ci := 4) (q0 := 0) rfl rfl) [.int 1]) rfl rfl hl.1 rfl (lv_room (Nat.le_of_ble_eq_true rfl)) dX4_cell_63 ⟨Nat.zero_le _, Nat.zero_le _⟩) (fun H locs hP hD hS => ?_)
      have hR2 : (fX4_cell so sl ces sh i ln) = ((-9223372036854775808), 1) := (by unfold fX4_cell; rw [if_neg c9, if_neg c16, if_pos c31])
      rw [hQ]
      exact W.lret (v := (-9223372036854775808)) hx hb hr (fun t ht hW => ⟨⟨_, (), rfl, (by show _ = _; rw [hR2]), (by show va_P D vwCl _ t.heap; rw [hR2, ht]; exact hP)⟩, hS.F ht⟩) hS.2.2 dX4_cell_66
    refine lv_aload_n hx hb dX4_cell_34 rfl (lv_at hl 0 rfl) ?_
    refine va_get (D := D) (ci := 4) (v := .ref m1) (C := RX4) (T := TX4) (N := 23) hx hb hts (fun _ h => List.mem_cons_of_mem _ (List.mem_append_right _ h)) hown hK.1 hP 0 rfl rfl 2 (by decide) (hts (.fieldLink RX4 9 "LieNightsModel" "sorts" "[I") (List.mem_of_getElem? (i := 3) rfl)) (fun _ h9 => h9) rfl dX4_cell_35 ?_
    refine lv_iload_n hx hb dX4_cell_38 rfl (lv_at hl 1 rfl) ?_
    refine va_iald hx hb hK.1 hP 1 0 rfl rfl (mSh c9) dX4_cell_39 ?_
    refine lv_iload_n hx hb dX4_cell_40 rfl (lv_at hl 3 rfl) ?_
    refine lv_icmp_eq (tgt := 50) hx hb dX4_cell_41 (by decide) (fun c41 => ?_) (fun c41 => ?_)
    · skip
      refine lv_aload_n hx hb dX4_cell_50 rfl (lv_at hl 0 rfl) ?_
      refine va_get (D := D) (ci := 4) (v := .ref m1) (C := RX4) (T := TX4) (N := 23) hx hb hts (fun _ h => List.mem_cons_of_mem _ (List.mem_append_right _ h)) hown hK.1 hP 0 rfl rfl 2 (by decide) (hts (.fieldLink RX4 9 "LieNightsModel" "sorts" "[I") (List.mem_of_getElem? (i := 3) rfl)) (fun _ h9 => h9) rfl dX4_cell_51 ?_
      refine lv_iload_n hx hb dX4_cell_54 rfl (lv_at hl 1 rfl) ?_
      refine va_iald hx hb hK.1 hP 1 0 rfl rfl (mSh c9) dX4_cell_55 ?_
      refine lv_bipush (v := (-9)) hx hb dX4_cell_56 (by decide) ?_
      refine lv_icmp_ne (tgt := 67) hx hb dX4_cell_58 (by decide) (fun c58 => ?_) (fun c58 => ?_)
      · skip
        refine lv_iload_n hx hb dX4_cell_67 rfl (lv_at hl 2 rfl) ?_
        refine lv_iconst (v := 0) hx hb dX4_cell_68 (by decide) ?_
        refine lv_aload_n hx hb dX4_cell_69 rfl (lv_at hl 0 rfl) ?_
        refine va_get (D := D) (ci := 4) (v := .ref m2) (C := RX4) (T := TX4) (N := 23) hx hb hts (fun _ h => List.mem_cons_of_mem _ (List.mem_append_right _ h)) hown hK.1 hP 0 rfl rfl 3 (by decide) (hts (.fieldLink RX4 13 "LieNightsModel" "sheetLong" "[I") (List.mem_of_getElem? (i := 4) rfl)) (fun _ h9 => h9) rfl dX4_cell_70 ?_
        refine lv_iload_n hx hb dX4_cell_73 rfl (lv_at hl 1 rfl) ?_
        refine va_iald hx hb hK.1 hP 2 0 rfl rfl (mSh c9) dX4_cell_74 ?_
        refine lv_iconst (v := 1) hx hb dX4_cell_75 (by decide) ?_
        refine lv_isub hx hb dX4_cell_76 ?_
        refine kPi (va_runS (As := [.int i, .int 0, .int ((sl sh.toNatClampNeg) - 1)]) (rest := []) ⟨hx, hb, hml, hown, hts⟩ (c_X4_within l D cI cS i 0 ((sl sh.toNatClampNeg) - 1)) (va_cwS 3 hts gX4_cell_X4_within rfl rfl rfl q_X4_within.2 ⟨Nat.le_of_ble_eq_true rfl, Nat.le_of_ble_eq_true rfl⟩) (kPS hK hP [] rfl [.int i, .int 0, .int ((sl sh.toNatClampNeg) - 1)]) rfl rfl hl.1 rfl (lv_room (Nat.le_of_ble_eq_true rfl)) dX4_cell_77 ⟨Nat.zero_le _, Nat.zero_le _⟩) ?_
        refine lv_if_ne (tgt := 89) hx hb dX4_cell_80 (by decide) (fun c80 => ?_) (fun c80 => ?_)
        · skip
          refine lv_aload_n hx hb dX4_cell_89 rfl (lv_at hl 0 rfl) ?_
          refine va_get (D := D) (ci := 4) (v := .ref m3) (C := RX4) (T := TX4) (N := 23) hx hb hts (fun _ h => List.mem_cons_of_mem _ (List.mem_append_right _ h)) hown hK.1 hP 0 rfl rfl 4 (by decide) (hts (.fieldLink RX4 16 "LieNightsModel" "cells" "[I") (List.mem_of_getElem? (i := 5) rfl)) (fun _ h9 => h9) rfl dX4_cell_90 ?_
          refine lv_bipush (v := 60) hx hb dX4_cell_93 (by decide) ?_
          refine lv_iload_n hx hb dX4_cell_95 rfl (lv_at hl 1 rfl) ?_
          refine lv_imul hx hb dX4_cell_96 ?_
          refine lv_iload_n hx hb dX4_cell_97 rfl (lv_at hl 2 rfl) ?_
          refine lv_iadd hx hb dX4_cell_98 ?_
          refine va_iald hx hb hK.1 hP 3 0 rfl rfl (mPt hsl (mSh c9) c80).1 dX4_cell_99 ?_
          refine lv_i2l (v := Int32.toInt64 (ces ((60 * sh) + i).toNatClampNeg)) hx hb dX4_cell_100 rfl ?_
          have hR3 : (fX4_cell so sl ces sh i ln) = ((Int32.toInt64 (ces ((60 * sh) + i).toNatClampNeg)), 0) := (by unfold fX4_cell; rw [if_neg c9, if_neg c16, if_neg c31, if_pos c41, if_neg c80])
          rw [hQ]
          exact W.lret (v := (Int32.toInt64 (ces ((60 * sh) + i).toNatClampNeg))) hx hb hr (fun t ht hW => ⟨⟨_, (), rfl, (by show _ = _; rw [hR3]), (by show va_P D vwCl _ t.heap; rw [hR3, ht]; exact hP)⟩, hS.F ht⟩) hS.2.2 dX4_cell_101
        refine lv_aload_n hx hb dX4_cell_83 rfl (lv_at hl 0 rfl) ?_
        refine lv_iconst (v := 3) hx hb dX4_cell_84 (by decide) ?_
        refine kMl (wl' := (wMo cI h m1 m2 m3 m4 m5 m6 m7 m8 m9 m10 m11 m12 m13 3 tr an pn gr ax ra rp rg rd so sl ces kd pl wt xk xp xw wo su ask shw)) (wc := (wMo cI h m1 m2 m3 m4 m5 m6 m7 m8 m9 m10 m11 m12 m13 0 tr an pn gr ax ra rp rg rd so sl ces kd pl wt xk xp xw wo su ask shw)) (w1 := (wMo cI h m1 m2 m3 m4 m5 m6 m7 m8 m9 m10 m11 m12 m13 3 tr an pn gr ax ra rp rg rd so sl ces kd pl wt xk xp xw wo su ask shw)) hP hD hS [0, 1, 2, 3, 4, 5, 6, 7, 8, 9, 10, 11, 12, 13] rfl rfl rfl (va_runV (As := [.int 3]) (rest := []) ⟨hx, hb, hml, hown, hts⟩ (c_X4_lost l D cI cS h m1 m2 m3 m4 m5 m6 m7 m8 m9 m10 m11 m12 m13 0 tr an pn gr ax ra rp rg rd so sl ces kd pl wt xk xp xw wo su ask shw 3) (cwV 1 hts gX4_cell_X4_lost rfl rfl rfl q_X4_lost ⟨Nat.le_of_ble_eq_true rfl, Nat.le_of_ble_eq_true rfl⟩) (kMV hK hP hD [0, 1, 2, 3, 4, 5, 6, 7, 8, 9, 10, 11, 12, 13] rfl rfl (va_recv hK.1 hP (ci := 4) (q0 := 0) rfl rfl) [.int 3]) rfl rfl hl.1 rfl (lv_room (Nat.le_of_ble_eq_true rfl)) dX4_cell_85 ⟨Nat.zero_le _, Nat.zero_le _⟩) (fun H locs hP hD hS => ?_)
        have hR4 : (fX4_cell so sl ces sh i ln) = ((-9223372036854775808), 3) := (by unfold fX4_cell; rw [if_neg c9, if_neg c16, if_neg c31, if_pos c41, if_pos c80])
        rw [hQ]
        exact W.lret (v := (-9223372036854775808)) hx hb hr (fun t ht hW => ⟨⟨_, (), rfl, (by show _ = _; rw [hR4]), (by show va_P D vwCl _ t.heap; rw [hR4, ht]; exact hP)⟩, hS.F ht⟩) hS.2.2 dX4_cell_88
      exact absurd c58 c31
    refine lv_aload_n hx hb dX4_cell_44 rfl (lv_at hl 0 rfl) ?_
    refine lv_iconst (v := 2) hx hb dX4_cell_45 (by decide) ?_
    refine kMl (wl' := (wMo cI h m1 m2 m3 m4 m5 m6 m7 m8 m9 m10 m11 m12 m13 2 tr an pn gr ax ra rp rg rd so sl ces kd pl wt xk xp xw wo su ask shw)) (wc := (wMo cI h m1 m2 m3 m4 m5 m6 m7 m8 m9 m10 m11 m12 m13 0 tr an pn gr ax ra rp rg rd so sl ces kd pl wt xk xp xw wo su ask shw)) (w1 := (wMo cI h m1 m2 m3 m4 m5 m6 m7 m8 m9 m10 m11 m12 m13 2 tr an pn gr ax ra rp rg rd so sl ces kd pl wt xk xp xw wo su ask shw)) hP hD hS [0, 1, 2, 3, 4, 5, 6, 7, 8, 9, 10, 11, 12, 13] rfl rfl rfl (va_runV (As := [.int 2]) (rest := []) ⟨hx, hb, hml, hown, hts⟩ (c_X4_lost l D cI cS h m1 m2 m3 m4 m5 m6 m7 m8 m9 m10 m11 m12 m13 0 tr an pn gr ax ra rp rg rd so sl ces kd pl wt xk xp xw wo su ask shw 2) (cwV 1 hts gX4_cell_X4_lost rfl rfl rfl q_X4_lost ⟨Nat.le_of_ble_eq_true rfl, Nat.le_of_ble_eq_true rfl⟩) (kMV hK hP hD [0, 1, 2, 3, 4, 5, 6, 7, 8, 9, 10, 11, 12, 13] rfl rfl (va_recv hK.1 hP (ci := 4) (q0 := 0) rfl rfl) [.int 2]) rfl rfl hl.1 rfl (lv_room (Nat.le_of_ble_eq_true rfl)) dX4_cell_46 ⟨Nat.zero_le _, Nat.zero_le _⟩) (fun H locs hP hD hS => ?_)
    have hR5 : (fX4_cell so sl ces sh i ln) = ((-9223372036854775808), 2) := (by unfold fX4_cell; rw [if_neg c9, if_neg c16, if_neg c31, if_neg c41])
    rw [hQ]
    exact W.lret (v := (-9223372036854775808)) hx hb hr (fun t ht hW => ⟨⟨_, (), rfl, (by show _ = _; rw [hR5]), (by show va_P D vwCl _ t.heap; rw [hR5, ht]; exact hP)⟩, hS.F ht⟩) hS.2.2 dX4_cell_49
  refine lv_ldc2 hx hb hown (hts (.constantLong RX4 53 (-9223372036854775808)) (List.mem_of_getElem? (i := 2) rfl)) dX4_cell_19 ?_
  have hR6 : (fX4_cell so sl ces sh i ln) = ((-9223372036854775808), 0) := (by unfold fX4_cell; rw [if_neg c9, if_pos c16])
  rw [hQ]
  exact W.lret (v := (-9223372036854775808)) hx hb hr (fun t ht hW => ⟨⟨_, (), rfl, (by show _ = _; rw [hR6]), (by show va_P D vwCl _ t.heap; rw [hR6, ht]; exact hP)⟩, hS.F ht⟩) hS.2.2 dX4_cell_22

def aX4_copy_166 (nn : Int32) (wces_166 : Nat → Int32) : (Int32 × Int32 × (Nat → Int32)) := (nn, 0, wces_166)
def sX4_copy_166 (sh i oh j : Int32) (k166 : Nat) (wces_166 : Nat → Int32) : ((Nat → Int32)) := (upd wces_166 ((((60 * oh) + j) + (nI k166)).toNatClampNeg) (wces_166 (((60 * sh) + i) + (nI k166)).toNatClampNeg))
def aX4_copy_166_1 (nn : Int32) (wces_166 : Nat → Int32) : (Int32 × Int32 × (Nat → Int32)) := (nn, 0, wces_166)
def sX4_copy_166_1 (sh i oh j nn : Int32) (k166 : Nat) (wces_166 : Nat → Int32) : ((Nat → Int32)) := (upd wces_166 ((((60 * oh) + j) + ((nn - 1) - (nI k166))).toNatClampNeg) (wces_166 (((60 * sh) + i) + ((nn - 1) - (nI k166))).toNatClampNeg))
def fX4_copy (so sl ces : Nat → Int32) (sh i oh j nn : Int32) : Int32 × Int32 × (Nat → Int32) := (if (fX4_isSheet sh) = 0 then ((-1), 0, ces) else (if (fX4_isSheet oh) = 0 then ((-1), 0, ces) else (if (so sh.toNatClampNeg) = (-9) then (((-10) - 1), 1, ces) else (if (so oh.toNatClampNeg) = (-9) then (((-10) - 1), 1, ces) else (if (so sh.toNatClampNeg) = (so oh.toNatClampNeg) then (if i < 0 then (((-10) - 3), 3, ces) else (if j < 0 then (((-10) - 3), 3, ces) else (if nn < 0 then (((-10) - 3), 3, ces) else (if ((sl sh.toNatClampNeg) : Int32) < i then (((-10) - 3), 3, ces) else (if ((sl oh.toNatClampNeg) : Int32) < j then (((-10) - 3), 3, ces) else (if (((sl sh.toNatClampNeg) - i) : Int32) < nn then (((-10) - 3), 3, ces) else (if nn ≤ ((sl oh.toNatClampNeg) - j) then (if (j : Int32) ≤ i then (aX4_copy_166 nn (lp (fun k a => sX4_copy_166 sh i oh j k a) ces nn.toNatClampNeg)) else (aX4_copy_166_1 nn (lp (fun k a => sX4_copy_166_1 sh i oh j nn k a) ces nn.toNatClampNeg))) else (((-10) - 3), 3, ces)))))))) else (((-10) - 2), 2, ces))))))
theorem q_X4_copy : yX4_copy.cls = RX4 ∧ yX4_copy.cls ≠ "java/lang/invoke/MethodHandle" ∧ yX4_copy.cls ≠ "java/lang/invoke/VarHandle" ∧ (parseMethodDescriptor yX4_copy.desc).map (fun d => d.parameters.length) = some 5 := by decide +kernel
set_option maxHeartbeats 4000000 in
set_option maxRecDepth 100000 in
theorem c_X4_copy (l : Launch) (D : va_G) (cI cS : ClassId) (h m1 m2 m3 m4 m5 m6 m7 m8 m9 m10 m11 m12 m13 : Nat) (lf tr an pn gr ax ra rp rg rd : Int32) (so sl ces kd pl wt xk xp xw wo su ask shw : Nat → Int32) (sh i oh j nn : Int32) (hsl : ∀ j, j < 4 → ∃ L : Nat, sl j = nI L ∧ L ≤ 60) : MMi l yX4_copy wsX4_copy { frames := 2, cells := 0, slots := 0, locals := 42 } D cI cS (wMo cI h m1 m2 m3 m4 m5 m6 m7 m8 m9 m10 m11 m12 m13 lf tr an pn gr ax ra rp rg rd so sl ces kd pl wt xk xp xw wo su ask shw) [.ref h, .int sh, .int i, .int oh, .int j, .int nn] ((fX4_copy so sl ces sh i oh j nn).1) (wMo cI h m1 m2 m3 m4 m5 m6 m7 m8 m9 m10 m11 m12 m13 ((fX4_copy so sl ces sh i oh j nn).2.1) tr an pn gr ax ra rp rg rd so sl ((fX4_copy so sl ces sh i oh j nn).2.2) kd pl wt xk xp xw wo su ask shw) := by
  refine kEnterM (cc := cX4_copy) (maxL := 10) (ret := (some .int)) (by decide) rfl (Nat.le_of_ble_eq_true rfl) ?_
  intro p e s m below meth c ls Qf hQ hx hb hml hr hlocks hown hts hK hP hD hS hl
  have hown : s.vm.findClass RX4 = some m.cls := hown
  have hl : lv_has ls 10 [(0, .ref h), (1, .int sh), (2, .int i), (3, .int oh), (4, .int j), (5, .int nn)] := hl
  generalize kA (wMo cI h m1 m2 m3 m4 m5 m6 m7 m8 m9 m10 m11 m12 m13 lf tr an pn gr ax ra rp rg rd so sl ces kd pl wt xk xp xw wo su ask shw) = A at hQ hD hS
  refine lv_aload_n hx hb dX4_copy_0 rfl (lv_at hl 0 rfl) ?_
  refine lv_iconst (v := 0) hx hb dX4_copy_1 (by decide) ?_
  refine va_put (D := D) (ci := 4) (v := .int 0) (ty := tyX4 0) (C := RX4) (T := TX4) (N := 23) hx hb hts (fun _ h => List.mem_cons_of_mem _ (List.mem_append_right _ h)) tyX4 tyX4_ok nmX4 hown hK.1 hP hD hS 0 rfl rfl 0 (by decide) (hts (.fieldLink RX4 49 "LieNightsModel" "fault" "I") (List.mem_of_getElem? (i := 1) rfl)) (fun _ h9 => h9) rfl (tyX4_ok 0 (by decide)) rfl rfl (Nat.le_of_ble_eq_true rfl) dX4_copy_2 (fun H locs hP hD hS => ?_)
  have hP : va_P D vwCl (wMo cI h m1 m2 m3 m4 m5 m6 m7 m8 m9 m10 m11 m12 m13 0 tr an pn gr ax ra rp rg rd so sl ces kd pl wt xk xp xw wo su ask shw) H := hP
  have hD : va_D A (wMo cI h m1 m2 m3 m4 m5 m6 m7 m8 m9 m10 m11 m12 m13 0 tr an pn gr ax ra rp rg rd so sl ces kd pl wt xk xp xw wo su ask shw) := hD
  refine lv_iload_n hx hb dX4_copy_5 rfl (lv_at hl 1 rfl) ?_
  refine kPi (va_runS (As := [.int sh]) (rest := []) ⟨hx, hb, hml, hown, hts⟩ (c_X4_isSheet l D cI cS sh) (va_cwS 1 hts gX4_copy_X4_isSheet rfl rfl rfl q_X4_isSheet.2 ⟨Nat.le_of_ble_eq_true rfl, Nat.le_of_ble_eq_true rfl⟩) (kPS hK hP [] rfl [.int sh]) rfl rfl hl.1 rfl (lv_room (Nat.le_of_ble_eq_true rfl)) dX4_copy_6 ⟨Nat.zero_le _, Nat.zero_le _⟩) ?_
  refine lv_if_eq (tgt := 19) hx hb dX4_copy_9 (by decide) (fun c9 => ?_) (fun c9 => ?_)
  · skip
    refine lv_iconst (v := (-1)) hx hb dX4_copy_19 (by decide) ?_
    have hR1 : (fX4_copy so sl ces sh i oh j nn) = ((-1), 0, ces) := (by unfold fX4_copy; rw [if_pos c9])
    rw [hQ]
    exact W.iret (v := (-1)) hx hb hr (fun t ht hW => ⟨⟨_, (), rfl, (by show _ = _; rw [hR1]), (by show va_P D vwCl _ t.heap; rw [hR1, ht]; exact hP)⟩, hS.F ht⟩) hS.2.2 dX4_copy_20
  refine lv_iload_n hx hb dX4_copy_12 rfl (lv_at hl 3 rfl) ?_
  refine kPi (va_runS (As := [.int oh]) (rest := []) ⟨hx, hb, hml, hown, hts⟩ (c_X4_isSheet l D cI cS oh) (va_cwS 1 hts gX4_copy_X4_isSheet rfl rfl rfl q_X4_isSheet.2 ⟨Nat.le_of_ble_eq_true rfl, Nat.le_of_ble_eq_true rfl⟩) (kPS hK hP [] rfl [.int oh]) rfl rfl hl.1 rfl (lv_room (Nat.le_of_ble_eq_true rfl)) dX4_copy_13 ⟨Nat.zero_le _, Nat.zero_le _⟩) ?_
  refine lv_if_ne (tgt := 21) hx hb dX4_copy_16 (by decide) (fun c16 => ?_) (fun c16 => ?_)
  · skip
    refine lv_aload_n hx hb dX4_copy_21 rfl (lv_at hl 0 rfl) ?_
    refine va_get (D := D) (ci := 4) (v := .ref m1) (C := RX4) (T := TX4) (N := 23) hx hb hts (fun _ h => List.mem_cons_of_mem _ (List.mem_append_right _ h)) hown hK.1 hP 0 rfl rfl 2 (by decide) (hts (.fieldLink RX4 9 "LieNightsModel" "sorts" "[I") (List.mem_of_getElem? (i := 2) rfl)) (fun _ h9 => h9) rfl dX4_copy_22 ?_
    refine lv_iload_n hx hb dX4_copy_25 rfl (lv_at hl 1 rfl) ?_
    refine va_iald hx hb hK.1 hP 1 0 rfl rfl (mSh c9) dX4_copy_26 ?_
    refine lv_bipush (v := (-9)) hx hb dX4_copy_27 (by decide) ?_
    refine lv_icmp_eq (tgt := 43) hx hb dX4_copy_29 (by decide) (fun c29 => ?_) (fun c29 => ?_)
    · skip
      refine lv_aload_n hx hb dX4_copy_43 rfl (lv_at hl 0 rfl) ?_
      refine lv_iconst (v := 1) hx hb dX4_copy_44 (by decide) ?_
      refine kMi (wl' := (wMo cI h m1 m2 m3 m4 m5 m6 m7 m8 m9 m10 m11 m12 m13 1 tr an pn gr ax ra rp rg rd so sl ces kd pl wt xk xp xw wo su ask shw)) (wc := (wMo cI h m1 m2 m3 m4 m5 m6 m7 m8 m9 m10 m11 m12 m13 0 tr an pn gr ax ra rp rg rd so sl ces kd pl wt xk xp xw wo su ask shw)) (w1 := (wMo cI h m1 m2 m3 m4 m5 m6 m7 m8 m9 m10 m11 m12 m13 1 tr an pn gr ax ra rp rg rd so sl ces kd pl wt xk xp xw wo su ask shw)) hP hD hS [0, 1, 2, 3, 4, 5, 6, 7, 8, 9, 10, 11, 12, 13] rfl rfl rfl (va_runV (As := [.int 1]) (rest := []) ⟨hx, hb, hml, hown, hts⟩ (c_X4_fails l D cI cS h m1 m2 m3 m4 m5 m6 m7 m8 m9 m10 m11 m12 m13 0 tr an pn gr ax ra rp rg rd so sl ces kd pl wt xk xp xw wo su ask shw 1) (cwV 1 hts gX4_copy_X4_fails rfl rfl rfl q_X4_fails ⟨Nat.le_of_ble_eq_true rfl, Nat.le_of_ble_eq_true rfl⟩) (kMV hK hP hD [0, 1, 2, 3, 4, 5, 6, 7, 8, 9, 10, 11, 12, 13] rfl rfl (va_recv hK.1 hP (ci := 4) (q0 := 0) rfl rfl) [.int 1]) rfl rfl hl.1 rfl (lv_room (Nat.le_of_ble_eq_true rfl)) dX4_copy_45 ⟨Nat.zero_le _, Nat.zero_le _⟩) (fun H locs hP hD hS => ?_)
      have hR2 : (fX4_copy so sl ces sh i oh j nn) = (((-10) - 1), 1, ces) := (by unfold fX4_copy; rw [if_neg c9, if_neg c16, if_pos c29])
      rw [hQ]
      exact W.iret (v := ((-10) - 1)) hx hb hr (fun t ht hW => ⟨⟨_, (), rfl, (by show _ = _; rw [hR2]), (by show va_P D vwCl _ t.heap; rw [hR2, ht]; exact hP)⟩, hS.F ht⟩) hS.2.2 dX4_copy_48
    refine lv_aload_n hx hb dX4_copy_32 rfl (lv_at hl 0 rfl) ?_
    refine va_get (D := D) (ci := 4) (v := .ref m1) (C := RX4) (T := TX4) (N := 23) hx hb hts (fun _ h => List.mem_cons_of_mem _ (List.mem_append_right _ h)) hown hK.1 hP 0 rfl rfl 2 (by decide) (hts (.fieldLink RX4 9 "LieNightsModel" "sorts" "[I") (List.mem_of_getElem? (i := 2) rfl)) (fun _ h9 => h9) rfl dX4_copy_33 ?_
    refine lv_iload_n hx hb dX4_copy_36 rfl (lv_at hl 3 rfl) ?_
    refine va_iald hx hb hK.1 hP 1 0 rfl rfl (mSh c16) dX4_copy_37 ?_
    refine lv_bipush (v := (-9)) hx hb dX4_copy_38 (by decide) ?_
    refine lv_icmp_ne (tgt := 49) hx hb dX4_copy_40 (by decide) (fun c40 => ?_) (fun c40 => ?_)
    · skip
      refine lv_aload_n hx hb dX4_copy_49 rfl (lv_at hl 0 rfl) ?_
      refine va_get (D := D) (ci := 4) (v := .ref m1) (C := RX4) (T := TX4) (N := 23) hx hb hts (fun _ h => List.mem_cons_of_mem _ (List.mem_append_right _ h)) hown hK.1 hP 0 rfl rfl 2 (by decide) (hts (.fieldLink RX4 9 "LieNightsModel" "sorts" "[I") (List.mem_of_getElem? (i := 2) rfl)) (fun _ h9 => h9) rfl dX4_copy_50 ?_
      refine lv_iload_n hx hb dX4_copy_53 rfl (lv_at hl 1 rfl) ?_
      refine va_iald hx hb hK.1 hP 1 0 rfl rfl (mSh c9) dX4_copy_54 ?_
      refine lv_aload_n hx hb dX4_copy_55 rfl (lv_at hl 0 rfl) ?_
      refine va_get (D := D) (ci := 4) (v := .ref m1) (C := RX4) (T := TX4) (N := 23) hx hb hts (fun _ h => List.mem_cons_of_mem _ (List.mem_append_right _ h)) hown hK.1 hP 0 rfl rfl 2 (by decide) (hts (.fieldLink RX4 9 "LieNightsModel" "sorts" "[I") (List.mem_of_getElem? (i := 2) rfl)) (fun _ h9 => h9) rfl dX4_copy_56 ?_
      refine lv_iload_n hx hb dX4_copy_59 rfl (lv_at hl 3 rfl) ?_
      refine va_iald hx hb hK.1 hP 1 0 rfl rfl (mSh c16) dX4_copy_60 ?_
      refine lv_icmp_eq (tgt := 70) hx hb dX4_copy_61 (by decide) (fun c61 => ?_) (fun c61 => ?_)
      · skip
        refine lv_iload_n hx hb dX4_copy_70 rfl (lv_at hl 2 rfl) ?_
        refine lv_if_lt (tgt := 109) hx hb dX4_copy_71 (by decide) (fun c71 => ?_) (fun c71 => ?_)
        · skip
          refine lv_iconst (v := 0) hx hb dX4_copy_109 (by decide) ?_
          refine lv_istore (lv' := [(6, .int 0), (0, .ref h), (1, .int sh), (2, .int i), (3, .int oh), (4, .int j), (5, .int nn)]) hx hb dX4_copy_110 hl (by decide) rfl (fun ls hl => ?_)
          refine lv_iload hx hb dX4_copy_112 (lv_at hl 0 rfl) ?_
          refine lv_if_eq (tgt := 144) hx hb dX4_copy_114 (by decide) (fun c114 => ?_) (fun c114 => ?_)
          · skip
            refine lv_aload_n hx hb dX4_copy_144 rfl (lv_at hl 1 rfl) ?_
            refine lv_iconst (v := 3) hx hb dX4_copy_145 (by decide) ?_
            refine kMi (wl' := (wMo cI h m1 m2 m3 m4 m5 m6 m7 m8 m9 m10 m11 m12 m13 3 tr an pn gr ax ra rp rg rd so sl ces kd pl wt xk xp xw wo su ask shw)) (wc := (wMo cI h m1 m2 m3 m4 m5 m6 m7 m8 m9 m10 m11 m12 m13 0 tr an pn gr ax ra rp rg rd so sl ces kd pl wt xk xp xw wo su ask shw)) (w1 := (wMo cI h m1 m2 m3 m4 m5 m6 m7 m8 m9 m10 m11 m12 m13 3 tr an pn gr ax ra rp rg rd so sl ces kd pl wt xk xp xw wo su ask shw)) hP hD hS [0, 1, 2, 3, 4, 5, 6, 7, 8, 9, 10, 11, 12, 13] rfl rfl rfl (va_runV (As := [.int 3]) (rest := []) ⟨hx, hb, hml, hown, hts⟩ (c_X4_fails l D cI cS h m1 m2 m3 m4 m5 m6 m7 m8 m9 m10 m11 m12 m13 0 tr an pn gr ax ra rp rg rd so sl ces kd pl wt xk xp xw wo su ask shw 3) (cwV 1 hts gX4_copy_X4_fails rfl rfl rfl q_X4_fails ⟨Nat.le_of_ble_eq_true rfl, Nat.le_of_ble_eq_true rfl⟩) (kMV hK hP hD [0, 1, 2, 3, 4, 5, 6, 7, 8, 9, 10, 11, 12, 13] rfl rfl (va_recv hK.1 hP (ci := 4) (q0 := 0) rfl rfl) [.int 3]) rfl rfl hl.1 rfl (lv_room (Nat.le_of_ble_eq_true rfl)) dX4_copy_146 ⟨Nat.zero_le _, Nat.zero_le _⟩) (fun H locs hP hD hS => ?_)
            have hR3 : (fX4_copy so sl ces sh i oh j nn) = (((-10) - 3), 3, ces) := (by unfold fX4_copy; rw [if_neg c9, if_neg c16, if_neg c29, if_neg c40, if_pos c61, if_pos c71])
            rw [hQ]
            exact W.iret (v := ((-10) - 3)) hx hb hr (fun t ht hW => ⟨⟨_, (), rfl, (by show _ = _; rw [hR3]), (by show va_P D vwCl _ t.heap; rw [hR3, ht]; exact hP)⟩, hS.F ht⟩) hS.2.2 dX4_copy_149
          exact (c114 (by decide)).elim
        refine lv_iload hx hb dX4_copy_74 (lv_at hl 4 rfl) ?_
        refine lv_if_lt (tgt := 109) hx hb dX4_copy_76 (by decide) (fun c76 => ?_) (fun c76 => ?_)
        · skip
          refine lv_iconst (v := 0) hx hb dX4_copy_109 (by decide) ?_
          refine lv_istore (lv' := [(6, .int 0), (0, .ref h), (1, .int sh), (2, .int i), (3, .int oh), (4, .int j), (5, .int nn)]) hx hb dX4_copy_110 hl (by decide) rfl (fun ls hl => ?_)
          refine lv_iload hx hb dX4_copy_112 (lv_at hl 0 rfl) ?_
          refine lv_if_eq (tgt := 144) hx hb dX4_copy_114 (by decide) (fun c114 => ?_) (fun c114 => ?_)
          · skip
            refine lv_aload_n hx hb dX4_copy_144 rfl (lv_at hl 1 rfl) ?_
            refine lv_iconst (v := 3) hx hb dX4_copy_145 (by decide) ?_
            refine kMi (wl' := (wMo cI h m1 m2 m3 m4 m5 m6 m7 m8 m9 m10 m11 m12 m13 3 tr an pn gr ax ra rp rg rd so sl ces kd pl wt xk xp xw wo su ask shw)) (wc := (wMo cI h m1 m2 m3 m4 m5 m6 m7 m8 m9 m10 m11 m12 m13 0 tr an pn gr ax ra rp rg rd so sl ces kd pl wt xk xp xw wo su ask shw)) (w1 := (wMo cI h m1 m2 m3 m4 m5 m6 m7 m8 m9 m10 m11 m12 m13 3 tr an pn gr ax ra rp rg rd so sl ces kd pl wt xk xp xw wo su ask shw)) hP hD hS [0, 1, 2, 3, 4, 5, 6, 7, 8, 9, 10, 11, 12, 13] rfl rfl rfl (va_runV (As := [.int 3]) (rest := []) ⟨hx, hb, hml, hown, hts⟩ (c_X4_fails l D cI cS h m1 m2 m3 m4 m5 m6 m7 m8 m9 m10 m11 m12 m13 0 tr an pn gr ax ra rp rg rd so sl ces kd pl wt xk xp xw wo su ask shw 3) (cwV 1 hts gX4_copy_X4_fails rfl rfl rfl q_X4_fails ⟨Nat.le_of_ble_eq_true rfl, Nat.le_of_ble_eq_true rfl⟩) (kMV hK hP hD [0, 1, 2, 3, 4, 5, 6, 7, 8, 9, 10, 11, 12, 13] rfl rfl (va_recv hK.1 hP (ci := 4) (q0 := 0) rfl rfl) [.int 3]) rfl rfl hl.1 rfl (lv_room (Nat.le_of_ble_eq_true rfl)) dX4_copy_146 ⟨Nat.zero_le _, Nat.zero_le _⟩) (fun H locs hP hD hS => ?_)
            have hR4 : (fX4_copy so sl ces sh i oh j nn) = (((-10) - 3), 3, ces) := (by unfold fX4_copy; rw [if_neg c9, if_neg c16, if_neg c29, if_neg c40, if_pos c61, if_neg c71, if_pos c76])
            rw [hQ]
            exact W.iret (v := ((-10) - 3)) hx hb hr (fun t ht hW => ⟨⟨_, (), rfl, (by show _ = _; rw [hR4]), (by show va_P D vwCl _ t.heap; rw [hR4, ht]; exact hP)⟩, hS.F ht⟩) hS.2.2 dX4_copy_149
          exact (c114 (by decide)).elim
        refine lv_iload hx hb dX4_copy_79 (lv_at hl 5 rfl) ?_
        refine lv_if_lt (tgt := 109) hx hb dX4_copy_81 (by decide) (fun c81 => ?_) (fun c81 => ?_)
        · skip
          refine lv_iconst (v := 0) hx hb dX4_copy_109 (by decide) ?_
          refine lv_istore (lv' := [(6, .int 0), (0, .ref h), (1, .int sh), (2, .int i), (3, .int oh), (4, .int j), (5, .int nn)]) hx hb dX4_copy_110 hl (by decide) rfl (fun ls hl => ?_)
          refine lv_iload hx hb dX4_copy_112 (lv_at hl 0 rfl) ?_
          refine lv_if_eq (tgt := 144) hx hb dX4_copy_114 (by decide) (fun c114 => ?_) (fun c114 => ?_)
          · skip
            refine lv_aload_n hx hb dX4_copy_144 rfl (lv_at hl 1 rfl) ?_
            refine lv_iconst (v := 3) hx hb dX4_copy_145 (by decide) ?_
            refine kMi (wl' := (wMo cI h m1 m2 m3 m4 m5 m6 m7 m8 m9 m10 m11 m12 m13 3 tr an pn gr ax ra rp rg rd so sl ces kd pl wt xk xp xw wo su ask shw)) (wc := (wMo cI h m1 m2 m3 m4 m5 m6 m7 m8 m9 m10 m11 m12 m13 0 tr an pn gr ax ra rp rg rd so sl ces kd pl wt xk xp xw wo su ask shw)) (w1 := (wMo cI h m1 m2 m3 m4 m5 m6 m7 m8 m9 m10 m11 m12 m13 3 tr an pn gr ax ra rp rg rd so sl ces kd pl wt xk xp xw wo su ask shw)) hP hD hS [0, 1, 2, 3, 4, 5, 6, 7, 8, 9, 10, 11, 12, 13] rfl rfl rfl (va_runV (As := [.int 3]) (rest := []) ⟨hx, hb, hml, hown, hts⟩ (c_X4_fails l D cI cS h m1 m2 m3 m4 m5 m6 m7 m8 m9 m10 m11 m12 m13 0 tr an pn gr ax ra rp rg rd so sl ces kd pl wt xk xp xw wo su ask shw 3) (cwV 1 hts gX4_copy_X4_fails rfl rfl rfl q_X4_fails ⟨Nat.le_of_ble_eq_true rfl, Nat.le_of_ble_eq_true rfl⟩) (kMV hK hP hD [0, 1, 2, 3, 4, 5, 6, 7, 8, 9, 10, 11, 12, 13] rfl rfl (va_recv hK.1 hP (ci := 4) (q0 := 0) rfl rfl) [.int 3]) rfl rfl hl.1 rfl (lv_room (Nat.le_of_ble_eq_true rfl)) dX4_copy_146 ⟨Nat.zero_le _, Nat.zero_le _⟩) (fun H locs hP hD hS => ?_)
            have hR5 : (fX4_copy so sl ces sh i oh j nn) = (((-10) - 3), 3, ces) := (by unfold fX4_copy; rw [if_neg c9, if_neg c16, if_neg c29, if_neg c40, if_pos c61, if_neg c71, if_neg c76, if_pos c81])
            rw [hQ]
            exact W.iret (v := ((-10) - 3)) hx hb hr (fun t ht hW => ⟨⟨_, (), rfl, (by show _ = _; rw [hR5]), (by show va_P D vwCl _ t.heap; rw [hR5, ht]; exact hP)⟩, hS.F ht⟩) hS.2.2 dX4_copy_149
          exact (c114 (by decide)).elim
        refine lv_iload_n hx hb dX4_copy_84 rfl (lv_at hl 2 rfl) ?_
        refine lv_aload_n hx hb dX4_copy_85 rfl (lv_at hl 0 rfl) ?_
        refine va_get (D := D) (ci := 4) (v := .ref m2) (C := RX4) (T := TX4) (N := 23) hx hb hts (fun _ h => List.mem_cons_of_mem _ (List.mem_append_right _ h)) hown hK.1 hP 0 rfl rfl 3 (by decide) (hts (.fieldLink RX4 13 "LieNightsModel" "sheetLong" "[I") (List.mem_of_getElem? (i := 3) rfl)) (fun _ h9 => h9) rfl dX4_copy_86 ?_
        refine lv_iload_n hx hb dX4_copy_89 rfl (lv_at hl 1 rfl) ?_
        refine va_iald hx hb hK.1 hP 2 0 rfl rfl (mSh c9) dX4_copy_90 ?_
        refine lv_icmp_gt (tgt := 109) hx hb dX4_copy_91 (by decide) (fun c91 => ?_) (fun c91 => ?_)
        · skip
          refine lv_iconst (v := 0) hx hb dX4_copy_109 (by decide) ?_
          refine lv_istore (lv' := [(6, .int 0), (0, .ref h), (1, .int sh), (2, .int i), (3, .int oh), (4, .int j), (5, .int nn)]) hx hb dX4_copy_110 hl (by decide) rfl (fun ls hl => ?_)
          refine lv_iload hx hb dX4_copy_112 (lv_at hl 0 rfl) ?_
          refine lv_if_eq (tgt := 144) hx hb dX4_copy_114 (by decide) (fun c114 => ?_) (fun c114 => ?_)
          · skip
            refine lv_aload_n hx hb dX4_copy_144 rfl (lv_at hl 1 rfl) ?_
            refine lv_iconst (v := 3) hx hb dX4_copy_145 (by decide) ?_
            refine kMi (wl' := (wMo cI h m1 m2 m3 m4 m5 m6 m7 m8 m9 m10 m11 m12 m13 3 tr an pn gr ax ra rp rg rd so sl ces kd pl wt xk xp xw wo su ask shw)) (wc := (wMo cI h m1 m2 m3 m4 m5 m6 m7 m8 m9 m10 m11 m12 m13 0 tr an pn gr ax ra rp rg rd so sl ces kd pl wt xk xp xw wo su ask shw)) (w1 := (wMo cI h m1 m2 m3 m4 m5 m6 m7 m8 m9 m10 m11 m12 m13 3 tr an pn gr ax ra rp rg rd so sl ces kd pl wt xk xp xw wo su ask shw)) hP hD hS [0, 1, 2, 3, 4, 5, 6, 7, 8, 9, 10, 11, 12, 13] rfl rfl rfl (va_runV (As := [.int 3]) (rest := []) ⟨hx, hb, hml, hown, hts⟩ (c_X4_fails l D cI cS h m1 m2 m3 m4 m5 m6 m7 m8 m9 m10 m11 m12 m13 0 tr an pn gr ax ra rp rg rd so sl ces kd pl wt xk xp xw wo su ask shw 3) (cwV 1 hts gX4_copy_X4_fails rfl rfl rfl q_X4_fails ⟨Nat.le_of_ble_eq_true rfl, Nat.le_of_ble_eq_true rfl⟩) (kMV hK hP hD [0, 1, 2, 3, 4, 5, 6, 7, 8, 9, 10, 11, 12, 13] rfl rfl (va_recv hK.1 hP (ci := 4) (q0 := 0) rfl rfl) [.int 3]) rfl rfl hl.1 rfl (lv_room (Nat.le_of_ble_eq_true rfl)) dX4_copy_146 ⟨Nat.zero_le _, Nat.zero_le _⟩) (fun H locs hP hD hS => ?_)
            have hR6 : (fX4_copy so sl ces sh i oh j nn) = (((-10) - 3), 3, ces) := (by unfold fX4_copy; rw [if_neg c9, if_neg c16, if_neg c29, if_neg c40, if_pos c61, if_neg c71, if_neg c76, if_neg c81, if_pos c91])
            rw [hQ]
            exact W.iret (v := ((-10) - 3)) hx hb hr (fun t ht hW => ⟨⟨_, (), rfl, (by show _ = _; rw [hR6]), (by show va_P D vwCl _ t.heap; rw [hR6, ht]; exact hP)⟩, hS.F ht⟩) hS.2.2 dX4_copy_149
          exact (c114 (by decide)).elim
        refine lv_iload hx hb dX4_copy_94 (lv_at hl 4 rfl) ?_
        refine lv_aload_n hx hb dX4_copy_96 rfl (lv_at hl 0 rfl) ?_
        refine va_get (D := D) (ci := 4) (v := .ref m2) (C := RX4) (T := TX4) (N := 23) hx hb hts (fun _ h => List.mem_cons_of_mem _ (List.mem_append_right _ h)) hown hK.1 hP 0 rfl rfl 3 (by decide) (hts (.fieldLink RX4 13 "LieNightsModel" "sheetLong" "[I") (List.mem_of_getElem? (i := 3) rfl)) (fun _ h9 => h9) rfl dX4_copy_97 ?_
        refine lv_iload_n hx hb dX4_copy_100 rfl (lv_at hl 3 rfl) ?_
        refine va_iald hx hb hK.1 hP 2 0 rfl rfl (mSh c16) dX4_copy_101 ?_
        refine lv_icmp_gt (tgt := 109) hx hb dX4_copy_102 (by decide) (fun c102 => ?_) (fun c102 => ?_)
        · skip
          refine lv_iconst (v := 0) hx hb dX4_copy_109 (by decide) ?_
          refine lv_istore (lv' := [(6, .int 0), (0, .ref h), (1, .int sh), (2, .int i), (3, .int oh), (4, .int j), (5, .int nn)]) hx hb dX4_copy_110 hl (by decide) rfl (fun ls hl => ?_)
          refine lv_iload hx hb dX4_copy_112 (lv_at hl 0 rfl) ?_
          refine lv_if_eq (tgt := 144) hx hb dX4_copy_114 (by decide) (fun c114 => ?_) (fun c114 => ?_)
          · skip
            refine lv_aload_n hx hb dX4_copy_144 rfl (lv_at hl 1 rfl) ?_
            refine lv_iconst (v := 3) hx hb dX4_copy_145 (by decide) ?_
            refine kMi (wl' := (wMo cI h m1 m2 m3 m4 m5 m6 m7 m8 m9 m10 m11 m12 m13 3 tr an pn gr ax ra rp rg rd so sl ces kd pl wt xk xp xw wo su ask shw)) (wc := (wMo cI h m1 m2 m3 m4 m5 m6 m7 m8 m9 m10 m11 m12 m13 0 tr an pn gr ax ra rp rg rd so sl ces kd pl wt xk xp xw wo su ask shw)) (w1 := (wMo cI h m1 m2 m3 m4 m5 m6 m7 m8 m9 m10 m11 m12 m13 3 tr an pn gr ax ra rp rg rd so sl ces kd pl wt xk xp xw wo su ask shw)) hP hD hS [0, 1, 2, 3, 4, 5, 6, 7, 8, 9, 10, 11, 12, 13] rfl rfl rfl (va_runV (As := [.int 3]) (rest := []) ⟨hx, hb, hml, hown, hts⟩ (c_X4_fails l D cI cS h m1 m2 m3 m4 m5 m6 m7 m8 m9 m10 m11 m12 m13 0 tr an pn gr ax ra rp rg rd so sl ces kd pl wt xk xp xw wo su ask shw 3) (cwV 1 hts gX4_copy_X4_fails rfl rfl rfl q_X4_fails ⟨Nat.le_of_ble_eq_true rfl, Nat.le_of_ble_eq_true rfl⟩) (kMV hK hP hD [0, 1, 2, 3, 4, 5, 6, 7, 8, 9, 10, 11, 12, 13] rfl rfl (va_recv hK.1 hP (ci := 4) (q0 := 0) rfl rfl) [.int 3]) rfl rfl hl.1 rfl (lv_room (Nat.le_of_ble_eq_true rfl)) dX4_copy_146 ⟨Nat.zero_le _, Nat.zero_le _⟩) (fun H locs hP hD hS => ?_)
            have hR7 : (fX4_copy so sl ces sh i oh j nn) = (((-10) - 3), 3, ces) := (by unfold fX4_copy; rw [if_neg c9, if_neg c16, if_neg c29, if_neg c40, if_pos c61, if_neg c71, if_neg c76, if_neg c81, if_neg c91, if_pos c102])
            rw [hQ]
            exact W.iret (v := ((-10) - 3)) hx hb hr (fun t ht hW => ⟨⟨_, (), rfl, (by show _ = _; rw [hR7]), (by show va_P D vwCl _ t.heap; rw [hR7, ht]; exact hP)⟩, hS.F ht⟩) hS.2.2 dX4_copy_149
          exact (c114 (by decide)).elim
        refine lv_iconst (v := 1) hx hb dX4_copy_105 (by decide) ?_
        refine lv_goto (tgt := 110) hx hb dX4_copy_106 (by decide) ?_
        refine lv_istore (lv' := [(6, .int 1), (0, .ref h), (1, .int sh), (2, .int i), (3, .int oh), (4, .int j), (5, .int nn)]) hx hb dX4_copy_110 hl (by decide) rfl (fun ls hl => ?_)
        refine lv_iload hx hb dX4_copy_112 (lv_at hl 0 rfl) ?_
        refine lv_if_eq (tgt := 144) hx hb dX4_copy_114 (by decide) (fun c114 => ?_) (fun c114 => ?_)
        · exact absurd c114 (by decide)
        refine lv_iload hx hb dX4_copy_117 (lv_at hl 6 rfl) ?_
        refine lv_aload_n hx hb dX4_copy_119 rfl (lv_at hl 1 rfl) ?_
        refine va_get (D := D) (ci := 4) (v := .ref m2) (C := RX4) (T := TX4) (N := 23) hx hb hts (fun _ h => List.mem_cons_of_mem _ (List.mem_append_right _ h)) hown hK.1 hP 0 rfl rfl 3 (by decide) (hts (.fieldLink RX4 13 "LieNightsModel" "sheetLong" "[I") (List.mem_of_getElem? (i := 3) rfl)) (fun _ h9 => h9) rfl dX4_copy_120 ?_
        refine lv_iload_n hx hb dX4_copy_123 rfl (lv_at hl 2 rfl) ?_
        refine va_iald hx hb hK.1 hP 2 0 rfl rfl (mSh c9) dX4_copy_124 ?_
        refine lv_iload_n hx hb dX4_copy_125 rfl (lv_at hl 3 rfl) ?_
        refine lv_isub hx hb dX4_copy_126 ?_
        refine lv_icmp_gt (tgt := 144) hx hb dX4_copy_127 (by decide) (fun c127 => ?_) (fun c127 => ?_)
        · skip
          refine lv_aload_n hx hb dX4_copy_144 rfl (lv_at hl 1 rfl) ?_
          refine lv_iconst (v := 3) hx hb dX4_copy_145 (by decide) ?_
          refine kMi (wl' := (wMo cI h m1 m2 m3 m4 m5 m6 m7 m8 m9 m10 m11 m12 m13 3 tr an pn gr ax ra rp rg rd so sl ces kd pl wt xk xp xw wo su ask shw)) (wc := (wMo cI h m1 m2 m3 m4 m5 m6 m7 m8 m9 m10 m11 m12 m13 0 tr an pn gr ax ra rp rg rd so sl ces kd pl wt xk xp xw wo su ask shw)) (w1 := (wMo cI h m1 m2 m3 m4 m5 m6 m7 m8 m9 m10 m11 m12 m13 3 tr an pn gr ax ra rp rg rd so sl ces kd pl wt xk xp xw wo su ask shw)) hP hD hS [0, 1, 2, 3, 4, 5, 6, 7, 8, 9, 10, 11, 12, 13] rfl rfl rfl (va_runV (As := [.int 3]) (rest := []) ⟨hx, hb, hml, hown, hts⟩ (c_X4_fails l D cI cS h m1 m2 m3 m4 m5 m6 m7 m8 m9 m10 m11 m12 m13 0 tr an pn gr ax ra rp rg rd so sl ces kd pl wt xk xp xw wo su ask shw 3) (cwV 1 hts gX4_copy_X4_fails rfl rfl rfl q_X4_fails ⟨Nat.le_of_ble_eq_true rfl, Nat.le_of_ble_eq_true rfl⟩) (kMV hK hP hD [0, 1, 2, 3, 4, 5, 6, 7, 8, 9, 10, 11, 12, 13] rfl rfl (va_recv hK.1 hP (ci := 4) (q0 := 0) rfl rfl) [.int 3]) rfl rfl hl.1 rfl (lv_room (Nat.le_of_ble_eq_true rfl)) dX4_copy_146 ⟨Nat.zero_le _, Nat.zero_le _⟩) (fun H locs hP hD hS => ?_)
          have hR8 : (fX4_copy so sl ces sh i oh j nn) = (((-10) - 3), 3, ces) := (by unfold fX4_copy; rw [if_neg c9, if_neg c16, if_neg c29, if_neg c40, if_pos c61, if_neg c71, if_neg c76, if_neg c81, if_neg c91, if_neg c102, if_pos c127])
          rw [hQ]
          exact W.iret (v := ((-10) - 3)) hx hb hr (fun t ht hW => ⟨⟨_, (), rfl, (by show _ = _; rw [hR8]), (by show va_P D vwCl _ t.heap; rw [hR8, ht]; exact hP)⟩, hS.F ht⟩) hS.2.2 dX4_copy_149
        refine lv_iload hx hb dX4_copy_130 (lv_at hl 6 rfl) ?_
        refine lv_aload_n hx hb dX4_copy_132 rfl (lv_at hl 1 rfl) ?_
        refine va_get (D := D) (ci := 4) (v := .ref m2) (C := RX4) (T := TX4) (N := 23) hx hb hts (fun _ h => List.mem_cons_of_mem _ (List.mem_append_right _ h)) hown hK.1 hP 0 rfl rfl 3 (by decide) (hts (.fieldLink RX4 13 "LieNightsModel" "sheetLong" "[I") (List.mem_of_getElem? (i := 3) rfl)) (fun _ h9 => h9) rfl dX4_copy_133 ?_
        refine lv_iload_n hx hb dX4_copy_136 rfl (lv_at hl 4 rfl) ?_
        refine va_iald hx hb hK.1 hP 2 0 rfl rfl (mSh c16) dX4_copy_137 ?_
        refine lv_iload hx hb dX4_copy_138 (lv_at hl 5 rfl) ?_
        refine lv_isub hx hb dX4_copy_140 ?_
        refine lv_icmp_le (tgt := 150) hx hb dX4_copy_141 (by decide) (fun c141 => ?_) (fun c141 => ?_)
        · skip
          obtain ⟨S9, O9, a9, b9, d9, es, eo, ea, eb, ed, hS4, hO4, hab, hbb⟩ := mCp hsl (mSh c9) (mSh c16) c71 c76 c81 c91 c102 c127 c141
          have hnn : nn = nI nn.toNatClampNeg := by rw [ed, nI_clamp (by omega)]
          have hb60 : nn.toNatClampNeg ≤ 60 := by rw [ed, nI_clamp (by omega)]; omega
          refine lv_iload_n hx hb dX4_copy_150 rfl (lv_at hl 3 rfl) ?_
          refine lv_iload hx hb dX4_copy_151 (lv_at hl 5 rfl) ?_
          refine lv_icmp_ge (tgt := 160) hx hb dX4_copy_153 (by decide) (fun c153 => ?_) (fun c153 => ?_)
          · skip
            refine lv_iconst (v := 0) hx hb dX4_copy_160 (by decide) ?_
            refine lv_istore (lv' := [(7, .int 0), (6, .int 1), (0, .ref h), (1, .int sh), (2, .int i), (3, .int oh), (4, .int j), (5, .int nn)]) hx hb dX4_copy_161 hl (by decide) rfl (fun ls hl => ?_)
            refine lv_iconst (v := 0) hx hb dX4_copy_163 (by decide) ?_
            refine lv_istore (lv' := [(8, .int 0), (7, .int 0), (6, .int 1), (0, .ref h), (1, .int sh), (2, .int i), (3, .int oh), (4, .int j), (5, .int nn)]) hx hb dX4_copy_164 hl (by decide) rfl (fun ls hl => ?_)
            have hR9 : (fX4_copy so sl ces sh i oh j nn) = (aX4_copy_166 nn (lp (fun k a => sX4_copy_166 sh i oh j k a) ces nn.toNatClampNeg)) := (by unfold fX4_copy; rw [if_neg c9, if_neg c16, if_neg c29, if_neg c40, if_pos c61, if_neg c71, if_neg c76, if_neg c81, if_neg c91, if_neg c102, if_neg c127, if_pos c141, if_pos c153])
            have loop166 : ∀ (n k166 : Nat), k166 ≤ nn.toNatClampNeg → nn.toNatClampNeg + 1 ≤ k166 + n → ∀ (wces_166 : Nat → Int32), lp (fun k a => sX4_copy_166 sh i oh j k a) ces k166 = wces_166 →  ∀ (H : Heap) (locs : List Loc), va_P D vwCl (wMo cI h m1 m2 m3 m4 m5 m6 m7 m8 m9 m10 m11 m12 m13 0 tr an pn gr ax ra rp rg rd so sl wces_166 kd pl wt xk xp xw wo su ask shw) H → va_D A (wMo cI h m1 m2 m3 m4 m5 m6 m7 m8 m9 m10 m11 m12 m13 0 tr an pn gr ax ra rp rg rd so sl wces_166 kd pl wt xk xp xw wo su ask shw) → va_S A s.heap H locs → ∀ (ls : Array Slot), lv_has ls 10 [(0, .ref h), (1, .int sh), (2, .int i), (3, .int oh), (4, .int j), (5, .int nn), (6, .int 1), (7, .int 0), (8, .int (nI k166))] → W p l e { frames := 2, cells := 0, slots := 0, locals := 42 } s m ([.ref h, .int sh, .int i, .int oh, .int j, .int nn] : List Value).toArray below meth c H locs 0 0 Qf (F0 m 166 ls []) := by
              intro n
              induction n with
              | zero => intro k166 h1 h2; exact absurd h2 (by omega)
              | succ n ih =>
                intro k166 hk166 hn166 wces_166 hacc166  H locs hP hD hS ls hl
                have ih166 := ih
                refine lv_iload hx hb dX4_copy_166 (lv_at hl 8 rfl) ?_
                refine lv_iload hx hb dX4_copy_168 (lv_at hl 5 rfl) ?_
                refine lv_icmp_ge (tgt := 227) hx hb dX4_copy_170 (by decide) (fun c170 => ?_) (fun c170 => ?_)
                · skip
                  have hkN : k166 = nn.toNatClampNeg := (kEnd hk166 rfl hnn (by omega) c170)
                  rw [hkN] at hacc166
                  have hR10 : (fX4_copy so sl ces sh i oh j nn) = aX4_copy_166 nn wces_166 := hR9.trans (lp_end (x := wces_166) (g := (fun a => aX4_copy_166 nn a)) hacc166)
                  refine lv_iload hx hb dX4_copy_227 (lv_at hl 5 rfl) ?_
                  have hR11 : (fX4_copy so sl ces sh i oh j nn) = (nn, 0, wces_166) := hR10.trans rfl
                  rw [hQ]
                  exact W.iret (v := nn) hx hb hr (fun t ht hW => ⟨⟨_, (), rfl, (by show _ = _; rw [hR11]), (by show va_P D vwCl _ t.heap; rw [hR11, ht]; exact hP)⟩, hS.F ht⟩) hS.2.2 dX4_copy_229
                have hlt166 : k166 < nn.toNatClampNeg := (kLt hk166 rfl hnn c170)
                refine lv_iload hx hb dX4_copy_173 (lv_at hl 7 rfl) ?_
                refine lv_if_eq (tgt := 188) hx hb dX4_copy_175 (by decide) (fun c175 => ?_) (fun c175 => ?_)
                · skip
                  refine lv_iload hx hb dX4_copy_188 (lv_at hl 8 rfl) ?_
                  refine lv_istore (lv' := [(9, .int (nI k166)), (0, .ref h), (1, .int sh), (2, .int i), (3, .int oh), (4, .int j), (5, .int nn), (6, .int 1), (7, .int 0), (8, .int (nI k166))]) hx hb dX4_copy_190 hl (by decide) rfl (fun ls hl => ?_)
                  refine lv_aload_n hx hb dX4_copy_192 rfl (lv_at hl 1 rfl) ?_
                  refine va_get (D := D) (ci := 4) (v := .ref m3) (C := RX4) (T := TX4) (N := 23) hx hb hts (fun _ h => List.mem_cons_of_mem _ (List.mem_append_right _ h)) hown hK.1 hP 0 rfl rfl 4 (by decide) (hts (.fieldLink RX4 16 "LieNightsModel" "cells" "[I") (List.mem_of_getElem? (i := 4) rfl)) (fun _ h9 => h9) rfl dX4_copy_193 ?_
                  refine lv_bipush (v := 60) hx hb dX4_copy_196 (by decide) ?_
                  refine lv_iload_n hx hb dX4_copy_198 rfl (lv_at hl 4 rfl) ?_
                  refine lv_imul hx hb dX4_copy_199 ?_
                  refine lv_iload hx hb dX4_copy_200 (lv_at hl 5 rfl) ?_
                  refine lv_iadd hx hb dX4_copy_202 ?_
                  refine lv_iload hx hb dX4_copy_203 (lv_at hl 0 rfl) ?_
                  refine lv_iadd hx hb dX4_copy_205 ?_
                  refine lv_aload_n hx hb dX4_copy_206 rfl (lv_at hl 1 rfl) ?_
                  refine va_get (D := D) (ci := 4) (v := .ref m3) (C := RX4) (T := TX4) (N := 23) hx hb hts (fun _ h => List.mem_cons_of_mem _ (List.mem_append_right _ h)) hown hK.1 hP 0 rfl rfl 4 (by decide) (hts (.fieldLink RX4 16 "LieNightsModel" "cells" "[I") (List.mem_of_getElem? (i := 4) rfl)) (fun _ h9 => h9) rfl dX4_copy_207 ?_
                  refine lv_bipush (v := 60) hx hb dX4_copy_210 (by decide) ?_
                  refine lv_iload_n hx hb dX4_copy_212 rfl (lv_at hl 2 rfl) ?_
                  refine lv_imul hx hb dX4_copy_213 ?_
                  refine lv_iload_n hx hb dX4_copy_214 rfl (lv_at hl 3 rfl) ?_
                  refine lv_iadd hx hb dX4_copy_215 ?_
                  refine lv_iload hx hb dX4_copy_216 (lv_at hl 0 rfl) ?_
                  refine lv_iadd hx hb dX4_copy_218 ?_
                  refine va_iald hx hb hK.1 hP 3 0 rfl rfl (by first | exact mCellK es ea ed hS4 hab hlt166 | exact mCellD es ea ed hS4 hab hlt166) dX4_copy_219 ?_
                  refine va_iast hx hb hK.1 hP hD hS 3 0 rfl rfl (by first | exact mCellK eo eb ed hO4 hbb hlt166 | exact mCellD eo eb ed hO4 hbb hlt166) dX4_copy_220 (fun H locs hP hD hS => ?_)
                  have hP : va_P D vwCl (wMo cI h m1 m2 m3 m4 m5 m6 m7 m8 m9 m10 m11 m12 m13 0 tr an pn gr ax ra rp rg rd so sl (upd wces_166 ((((60 * oh) + j) + (nI k166)).toNatClampNeg) (wces_166 (((60 * sh) + i) + (nI k166)).toNatClampNeg)) kd pl wt xk xp xw wo su ask shw) H := hP
                  have hD : va_D A (wMo cI h m1 m2 m3 m4 m5 m6 m7 m8 m9 m10 m11 m12 m13 0 tr an pn gr ax ra rp rg rd so sl (upd wces_166 ((((60 * oh) + j) + (nI k166)).toNatClampNeg) (wces_166 (((60 * sh) + i) + (nI k166)).toNatClampNeg)) kd pl wt xk xp xw wo su ask shw) := hD
                  refine lv_iinc (v := (nI (k166 + 1))) (lv' := [(8, .int (nI (k166 + 1))), (9, .int (nI k166)), (0, .ref h), (1, .int sh), (2, .int i), (3, .int oh), (4, .int j), (5, .int nn), (6, .int 1), (7, .int 0)]) hx hb dX4_copy_221 hl (k := 9) rfl (nI_1 (k166)) (by decide) rfl (fun ls hl => ?_)
                  refine lv_goto (tgt := 166) hx hb dX4_copy_224 (by decide) ?_
                  have hR12 : sX4_copy_166 sh i oh j k166 wces_166 = (upd wces_166 ((((60 * oh) + j) + (nI k166)).toNatClampNeg) (wces_166 (((60 * sh) + i) + (nI k166)).toNatClampNeg)) := rfl
                  exact ih166 (k166 + 1) hlt166 (by omega) _ (lp_next hacc166 hR12)  _ _ hP hD hS ls (lv_sub hl [2, 3, 4, 5, 6, 7, 8, 9, 0] rfl)
                exact (c175 (by decide)).elim
            exact loop166 (nn.toNatClampNeg + 1) 0 (Nat.zero_le _) (by omega) _ rfl  _ _ hP hD hS ls (lv_sub hl [3, 4, 5, 6, 7, 8, 2, 1, 0] rfl)
          refine lv_iconst (v := 1) hx hb dX4_copy_156 (by decide) ?_
          refine lv_goto (tgt := 161) hx hb dX4_copy_157 (by decide) ?_
          refine lv_istore (lv' := [(7, .int 1), (6, .int 1), (0, .ref h), (1, .int sh), (2, .int i), (3, .int oh), (4, .int j), (5, .int nn)]) hx hb dX4_copy_161 hl (by decide) rfl (fun ls hl => ?_)
          refine lv_iconst (v := 0) hx hb dX4_copy_163 (by decide) ?_
          refine lv_istore (lv' := [(8, .int 0), (7, .int 1), (6, .int 1), (0, .ref h), (1, .int sh), (2, .int i), (3, .int oh), (4, .int j), (5, .int nn)]) hx hb dX4_copy_164 hl (by decide) rfl (fun ls hl => ?_)
          have hR13 : (fX4_copy so sl ces sh i oh j nn) = (aX4_copy_166_1 nn (lp (fun k a => sX4_copy_166_1 sh i oh j nn k a) ces nn.toNatClampNeg)) := (by unfold fX4_copy; rw [if_neg c9, if_neg c16, if_neg c29, if_neg c40, if_pos c61, if_neg c71, if_neg c76, if_neg c81, if_neg c91, if_neg c102, if_neg c127, if_pos c141, if_neg c153])
          have loop166 : ∀ (n k166 : Nat), k166 ≤ nn.toNatClampNeg → nn.toNatClampNeg + 1 ≤ k166 + n → ∀ (wces_166 : Nat → Int32), lp (fun k a => sX4_copy_166_1 sh i oh j nn k a) ces k166 = wces_166 →  ∀ (H : Heap) (locs : List Loc), va_P D vwCl (wMo cI h m1 m2 m3 m4 m5 m6 m7 m8 m9 m10 m11 m12 m13 0 tr an pn gr ax ra rp rg rd so sl wces_166 kd pl wt xk xp xw wo su ask shw) H → va_D A (wMo cI h m1 m2 m3 m4 m5 m6 m7 m8 m9 m10 m11 m12 m13 0 tr an pn gr ax ra rp rg rd so sl wces_166 kd pl wt xk xp xw wo su ask shw) → va_S A s.heap H locs → ∀ (ls : Array Slot), lv_has ls 10 [(0, .ref h), (1, .int sh), (2, .int i), (3, .int oh), (4, .int j), (5, .int nn), (6, .int 1), (7, .int 1), (8, .int (nI k166))] → W p l e { frames := 2, cells := 0, slots := 0, locals := 42 } s m ([.ref h, .int sh, .int i, .int oh, .int j, .int nn] : List Value).toArray below meth c H locs 0 0 Qf (F0 m 166 ls []) := by
            intro n
            induction n with
            | zero => intro k166 h1 h2; exact absurd h2 (by omega)
            | succ n ih =>
              intro k166 hk166 hn166 wces_166 hacc166  H locs hP hD hS ls hl
              have ih166 := ih
              refine lv_iload hx hb dX4_copy_166 (lv_at hl 8 rfl) ?_
              refine lv_iload hx hb dX4_copy_168 (lv_at hl 5 rfl) ?_
              refine lv_icmp_ge (tgt := 227) hx hb dX4_copy_170 (by decide) (fun c170 => ?_) (fun c170 => ?_)
              · skip
                have hkN : k166 = nn.toNatClampNeg := (kEnd hk166 rfl hnn (by omega) c170)
                rw [hkN] at hacc166
                have hR14 : (fX4_copy so sl ces sh i oh j nn) = aX4_copy_166_1 nn wces_166 := hR13.trans (lp_end (x := wces_166) (g := (fun a => aX4_copy_166_1 nn a)) hacc166)
                refine lv_iload hx hb dX4_copy_227 (lv_at hl 5 rfl) ?_
                have hR15 : (fX4_copy so sl ces sh i oh j nn) = (nn, 0, wces_166) := hR14.trans rfl
                rw [hQ]
                exact W.iret (v := nn) hx hb hr (fun t ht hW => ⟨⟨_, (), rfl, (by show _ = _; rw [hR15]), (by show va_P D vwCl _ t.heap; rw [hR15, ht]; exact hP)⟩, hS.F ht⟩) hS.2.2 dX4_copy_229
              have hlt166 : k166 < nn.toNatClampNeg := (kLt hk166 rfl hnn c170)
              refine lv_iload hx hb dX4_copy_173 (lv_at hl 7 rfl) ?_
              refine lv_if_eq (tgt := 188) hx hb dX4_copy_175 (by decide) (fun c175 => ?_) (fun c175 => ?_)
              · exact absurd c175 (by decide)
              refine lv_iload hx hb dX4_copy_178 (lv_at hl 5 rfl) ?_
              refine lv_iconst (v := 1) hx hb dX4_copy_180 (by decide) ?_
              refine lv_isub hx hb dX4_copy_181 ?_
              refine lv_iload hx hb dX4_copy_182 (lv_at hl 8 rfl) ?_
              refine lv_isub hx hb dX4_copy_184 ?_
              refine lv_goto (tgt := 190) hx hb dX4_copy_185 (by decide) ?_
              refine lv_istore (lv' := [(9, .int ((nn - 1) - (nI k166))), (0, .ref h), (1, .int sh), (2, .int i), (3, .int oh), (4, .int j), (5, .int nn), (6, .int 1), (7, .int 1), (8, .int (nI k166))]) hx hb dX4_copy_190 hl (by decide) rfl (fun ls hl => ?_)
              refine lv_aload_n hx hb dX4_copy_192 rfl (lv_at hl 1 rfl) ?_
              refine va_get (D := D) (ci := 4) (v := .ref m3) (C := RX4) (T := TX4) (N := 23) hx hb hts (fun _ h => List.mem_cons_of_mem _ (List.mem_append_right _ h)) hown hK.1 hP 0 rfl rfl 4 (by decide) (hts (.fieldLink RX4 16 "LieNightsModel" "cells" "[I") (List.mem_of_getElem? (i := 4) rfl)) (fun _ h9 => h9) rfl dX4_copy_193 ?_
              refine lv_bipush (v := 60) hx hb dX4_copy_196 (by decide) ?_
              refine lv_iload_n hx hb dX4_copy_198 rfl (lv_at hl 4 rfl) ?_
              refine lv_imul hx hb dX4_copy_199 ?_
              refine lv_iload hx hb dX4_copy_200 (lv_at hl 5 rfl) ?_
              refine lv_iadd hx hb dX4_copy_202 ?_
              refine lv_iload hx hb dX4_copy_203 (lv_at hl 0 rfl) ?_
              refine lv_iadd hx hb dX4_copy_205 ?_
              refine lv_aload_n hx hb dX4_copy_206 rfl (lv_at hl 1 rfl) ?_
              refine va_get (D := D) (ci := 4) (v := .ref m3) (C := RX4) (T := TX4) (N := 23) hx hb hts (fun _ h => List.mem_cons_of_mem _ (List.mem_append_right _ h)) hown hK.1 hP 0 rfl rfl 4 (by decide) (hts (.fieldLink RX4 16 "LieNightsModel" "cells" "[I") (List.mem_of_getElem? (i := 4) rfl)) (fun _ h9 => h9) rfl dX4_copy_207 ?_
              refine lv_bipush (v := 60) hx hb dX4_copy_210 (by decide) ?_
              refine lv_iload_n hx hb dX4_copy_212 rfl (lv_at hl 2 rfl) ?_
              refine lv_imul hx hb dX4_copy_213 ?_
              refine lv_iload_n hx hb dX4_copy_214 rfl (lv_at hl 3 rfl) ?_
              refine lv_iadd hx hb dX4_copy_215 ?_
              refine lv_iload hx hb dX4_copy_216 (lv_at hl 0 rfl) ?_
              refine lv_iadd hx hb dX4_copy_218 ?_
              refine va_iald hx hb hK.1 hP 3 0 rfl rfl (by first | exact mCellK es ea ed hS4 hab hlt166 | exact mCellD es ea ed hS4 hab hlt166) dX4_copy_219 ?_
              refine va_iast hx hb hK.1 hP hD hS 3 0 rfl rfl (by first | exact mCellK eo eb ed hO4 hbb hlt166 | exact mCellD eo eb ed hO4 hbb hlt166) dX4_copy_220 (fun H locs hP hD hS => ?_)
              have hP : va_P D vwCl (wMo cI h m1 m2 m3 m4 m5 m6 m7 m8 m9 m10 m11 m12 m13 0 tr an pn gr ax ra rp rg rd so sl (upd wces_166 ((((60 * oh) + j) + ((nn - 1) - (nI k166))).toNatClampNeg) (wces_166 (((60 * sh) + i) + ((nn - 1) - (nI k166))).toNatClampNeg)) kd pl wt xk xp xw wo su ask shw) H := hP
              have hD : va_D A (wMo cI h m1 m2 m3 m4 m5 m6 m7 m8 m9 m10 m11 m12 m13 0 tr an pn gr ax ra rp rg rd so sl (upd wces_166 ((((60 * oh) + j) + ((nn - 1) - (nI k166))).toNatClampNeg) (wces_166 (((60 * sh) + i) + ((nn - 1) - (nI k166))).toNatClampNeg)) kd pl wt xk xp xw wo su ask shw) := hD
              refine lv_iinc (v := (nI (k166 + 1))) (lv' := [(8, .int (nI (k166 + 1))), (9, .int ((nn - 1) - (nI k166))), (0, .ref h), (1, .int sh), (2, .int i), (3, .int oh), (4, .int j), (5, .int nn), (6, .int 1), (7, .int 1)]) hx hb dX4_copy_221 hl (k := 9) rfl (nI_1 (k166)) (by decide) rfl (fun ls hl => ?_)
              refine lv_goto (tgt := 166) hx hb dX4_copy_224 (by decide) ?_
              have hR16 : sX4_copy_166_1 sh i oh j nn k166 wces_166 = (upd wces_166 ((((60 * oh) + j) + ((nn - 1) - (nI k166))).toNatClampNeg) (wces_166 (((60 * sh) + i) + ((nn - 1) - (nI k166))).toNatClampNeg)) := rfl
              exact ih166 (k166 + 1) hlt166 (by omega) _ (lp_next hacc166 hR16)  _ _ hP hD hS ls (lv_sub hl [2, 3, 4, 5, 6, 7, 8, 9, 0] rfl)
          exact loop166 (nn.toNatClampNeg + 1) 0 (Nat.zero_le _) (by omega) _ rfl  _ _ hP hD hS ls (lv_sub hl [3, 4, 5, 6, 7, 8, 2, 1, 0] rfl)
        refine lv_aload_n hx hb dX4_copy_144 rfl (lv_at hl 1 rfl) ?_
        refine lv_iconst (v := 3) hx hb dX4_copy_145 (by decide) ?_
        refine kMi (wl' := (wMo cI h m1 m2 m3 m4 m5 m6 m7 m8 m9 m10 m11 m12 m13 3 tr an pn gr ax ra rp rg rd so sl ces kd pl wt xk xp xw wo su ask shw)) (wc := (wMo cI h m1 m2 m3 m4 m5 m6 m7 m8 m9 m10 m11 m12 m13 0 tr an pn gr ax ra rp rg rd so sl ces kd pl wt xk xp xw wo su ask shw)) (w1 := (wMo cI h m1 m2 m3 m4 m5 m6 m7 m8 m9 m10 m11 m12 m13 3 tr an pn gr ax ra rp rg rd so sl ces kd pl wt xk xp xw wo su ask shw)) hP hD hS [0, 1, 2, 3, 4, 5, 6, 7, 8, 9, 10, 11, 12, 13] rfl rfl rfl (va_runV (As := [.int 3]) (rest := []) ⟨hx, hb, hml, hown, hts⟩ (c_X4_fails l D cI cS h m1 m2 m3 m4 m5 m6 m7 m8 m9 m10 m11 m12 m13 0 tr an pn gr ax ra rp rg rd so sl ces kd pl wt xk xp xw wo su ask shw 3) (cwV 1 hts gX4_copy_X4_fails rfl rfl rfl q_X4_fails ⟨Nat.le_of_ble_eq_true rfl, Nat.le_of_ble_eq_true rfl⟩) (kMV hK hP hD [0, 1, 2, 3, 4, 5, 6, 7, 8, 9, 10, 11, 12, 13] rfl rfl (va_recv hK.1 hP (ci := 4) (q0 := 0) rfl rfl) [.int 3]) rfl rfl hl.1 rfl (lv_room (Nat.le_of_ble_eq_true rfl)) dX4_copy_146 ⟨Nat.zero_le _, Nat.zero_le _⟩) (fun H locs hP hD hS => ?_)
        have hR17 : (fX4_copy so sl ces sh i oh j nn) = (((-10) - 3), 3, ces) := (by unfold fX4_copy; rw [if_neg c9, if_neg c16, if_neg c29, if_neg c40, if_pos c61, if_neg c71, if_neg c76, if_neg c81, if_neg c91, if_neg c102, if_neg c127, if_neg c141])
        rw [hQ]
        exact W.iret (v := ((-10) - 3)) hx hb hr (fun t ht hW => ⟨⟨_, (), rfl, (by show _ = _; rw [hR17]), (by show va_P D vwCl _ t.heap; rw [hR17, ht]; exact hP)⟩, hS.F ht⟩) hS.2.2 dX4_copy_149
      refine lv_aload_n hx hb dX4_copy_64 rfl (lv_at hl 0 rfl) ?_
      refine lv_iconst (v := 2) hx hb dX4_copy_65 (by decide) ?_
      refine kMi (wl' := (wMo cI h m1 m2 m3 m4 m5 m6 m7 m8 m9 m10 m11 m12 m13 2 tr an pn gr ax ra rp rg rd so sl ces kd pl wt xk xp xw wo su ask shw)) (wc := (wMo cI h m1 m2 m3 m4 m5 m6 m7 m8 m9 m10 m11 m12 m13 0 tr an pn gr ax ra rp rg rd so sl ces kd pl wt xk xp xw wo su ask shw)) (w1 := (wMo cI h m1 m2 m3 m4 m5 m6 m7 m8 m9 m10 m11 m12 m13 2 tr an pn gr ax ra rp rg rd so sl ces kd pl wt xk xp xw wo su ask shw)) hP hD hS [0, 1, 2, 3, 4, 5, 6, 7, 8, 9, 10, 11, 12, 13] rfl rfl rfl (va_runV (As := [.int 2]) (rest := []) ⟨hx, hb, hml, hown, hts⟩ (c_X4_fails l D cI cS h m1 m2 m3 m4 m5 m6 m7 m8 m9 m10 m11 m12 m13 0 tr an pn gr ax ra rp rg rd so sl ces kd pl wt xk xp xw wo su ask shw 2) (cwV 1 hts gX4_copy_X4_fails rfl rfl rfl q_X4_fails ⟨Nat.le_of_ble_eq_true rfl, Nat.le_of_ble_eq_true rfl⟩) (kMV hK hP hD [0, 1, 2, 3, 4, 5, 6, 7, 8, 9, 10, 11, 12, 13] rfl rfl (va_recv hK.1 hP (ci := 4) (q0 := 0) rfl rfl) [.int 2]) rfl rfl hl.1 rfl (lv_room (Nat.le_of_ble_eq_true rfl)) dX4_copy_66 ⟨Nat.zero_le _, Nat.zero_le _⟩) (fun H locs hP hD hS => ?_)
      have hR18 : (fX4_copy so sl ces sh i oh j nn) = (((-10) - 2), 2, ces) := (by unfold fX4_copy; rw [if_neg c9, if_neg c16, if_neg c29, if_neg c40, if_neg c61])
      rw [hQ]
      exact W.iret (v := ((-10) - 2)) hx hb hr (fun t ht hW => ⟨⟨_, (), rfl, (by show _ = _; rw [hR18]), (by show va_P D vwCl _ t.heap; rw [hR18, ht]; exact hP)⟩, hS.F ht⟩) hS.2.2 dX4_copy_69
    refine lv_aload_n hx hb dX4_copy_43 rfl (lv_at hl 0 rfl) ?_
    refine lv_iconst (v := 1) hx hb dX4_copy_44 (by decide) ?_
    refine kMi (wl' := (wMo cI h m1 m2 m3 m4 m5 m6 m7 m8 m9 m10 m11 m12 m13 1 tr an pn gr ax ra rp rg rd so sl ces kd pl wt xk xp xw wo su ask shw)) (wc := (wMo cI h m1 m2 m3 m4 m5 m6 m7 m8 m9 m10 m11 m12 m13 0 tr an pn gr ax ra rp rg rd so sl ces kd pl wt xk xp xw wo su ask shw)) (w1 := (wMo cI h m1 m2 m3 m4 m5 m6 m7 m8 m9 m10 m11 m12 m13 1 tr an pn gr ax ra rp rg rd so sl ces kd pl wt xk xp xw wo su ask shw)) hP hD hS [0, 1, 2, 3, 4, 5, 6, 7, 8, 9, 10, 11, 12, 13] rfl rfl rfl (va_runV (As := [.int 1]) (rest := []) ⟨hx, hb, hml, hown, hts⟩ (c_X4_fails l D cI cS h m1 m2 m3 m4 m5 m6 m7 m8 m9 m10 m11 m12 m13 0 tr an pn gr ax ra rp rg rd so sl ces kd pl wt xk xp xw wo su ask shw 1) (cwV 1 hts gX4_copy_X4_fails rfl rfl rfl q_X4_fails ⟨Nat.le_of_ble_eq_true rfl, Nat.le_of_ble_eq_true rfl⟩) (kMV hK hP hD [0, 1, 2, 3, 4, 5, 6, 7, 8, 9, 10, 11, 12, 13] rfl rfl (va_recv hK.1 hP (ci := 4) (q0 := 0) rfl rfl) [.int 1]) rfl rfl hl.1 rfl (lv_room (Nat.le_of_ble_eq_true rfl)) dX4_copy_45 ⟨Nat.zero_le _, Nat.zero_le _⟩) (fun H locs hP hD hS => ?_)
    have hR19 : (fX4_copy so sl ces sh i oh j nn) = (((-10) - 1), 1, ces) := (by unfold fX4_copy; rw [if_neg c9, if_neg c16, if_neg c29, if_pos c40])
    rw [hQ]
    exact W.iret (v := ((-10) - 1)) hx hb hr (fun t ht hW => ⟨⟨_, (), rfl, (by show _ = _; rw [hR19]), (by show va_P D vwCl _ t.heap; rw [hR19, ht]; exact hP)⟩, hS.F ht⟩) hS.2.2 dX4_copy_48
  refine lv_iconst (v := (-1)) hx hb dX4_copy_19 (by decide) ?_
  have hR20 : (fX4_copy so sl ces sh i oh j nn) = ((-1), 0, ces) := (by unfold fX4_copy; rw [if_neg c9, if_pos c16])
  rw [hQ]
  exact W.iret (v := (-1)) hx hb hr (fun t ht hW => ⟨⟨_, (), rfl, (by show _ = _; rw [hR20]), (by show va_P D vwCl _ t.heap; rw [hR20, ht]; exact hP)⟩, hS.F ht⟩) hS.2.2 dX4_copy_20
