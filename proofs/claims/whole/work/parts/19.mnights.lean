def aX4_tellNights_21 (wh v5_21 v6_21 v7_21 : Int32) : Int32 := (if wh = 0 then v5_21 else (if wh = 1 then v6_21 else v7_21))
def sX4_tellNights_21 (ces kd pl : Nat → Int32) (N : Nat) (t fi wh : Int32) (k21 : Nat) (v5_21 v6_21 v7_21 : Int32) : (Int32 × Int32 × Int32) ⊕ Int32 := (if v6_21 = (-9) then (if (ces (fi + (nI k21)).toNatClampNeg) = t then (.inl ((v5_21 &&& (fX4_group kd pl N (ces (fi + (nI k21)).toNatClampNeg) (fX4_shownBy kd pl (ces (fi + (nI k21)).toNatClampNeg) t) v5_21)), (nI k21), (fX4_shownBy kd pl (ces (fi + (nI k21)).toNatClampNeg) t))) else (.inl ((v5_21 &&& (fX4_group kd pl N (ces (fi + (nI k21)).toNatClampNeg) (fX4_shownBy kd pl (ces (fi + (nI k21)).toNatClampNeg) t) v5_21)), (-9), (fX4_shownBy kd pl (ces (fi + (nI k21)).toNatClampNeg) t)))) else (.inr (aX4_tellNights_21 wh v5_21 v6_21 v7_21)))
def fX4_tellNights (an : Int32) (ces kd pl : Nat → Int32) (N Nn : Nat) (t fi wh : Int32) : Int32 := (lqr (lq (fun k a => sX4_tellNights_21 ces kd pl N t fi wh k a.1 a.2.1 a.2.2) (((1 <<< (an &&& 31)) - 1), (-9), (-9)) Nn) (fun a => aX4_tellNights_21 wh a.1 a.2.1 a.2.2))
theorem q_X4_tellNights : yX4_tellNights.cls = RX4 ∧ yX4_tellNights.cls ≠ "java/lang/invoke/MethodHandle" ∧ yX4_tellNights.cls ≠ "java/lang/invoke/VarHandle" ∧ (parseMethodDescriptor yX4_tellNights.desc).map (fun d => d.parameters.length) = some 4 := by decide +kernel
set_option maxHeartbeats 4000000 in
set_option maxRecDepth 100000 in
theorem c_X4_tellNights (l : Launch) (D : va_G) (cI cS : ClassId) (h m1 m2 m3 m4 m5 m6 m7 m8 m9 m10 m11 m12 m13 : Nat) (lf tr an pn gr ax ra rp rg rd : Int32) (so sl ces kd pl wt xk xp xw wo su ask shw : Nat → Int32) (N Nn : Nat) (t fi nn wh : Int32) (ha : an = nI N) (hN : N ≤ 6) (hit : vp_in t 6) (hn : nn = nI Nn) (hNn : Nn ≤ 60) (hcx : ∀ k, k < Nn → vp_in (fi + nI k) 240) (hce : ∀ k, k < Nn → vp_in (ces (fi + nI k).toNatClampNeg) 6) : PMi l yX4_tellNights wsX4_tellNights { frames := 2, cells := 0, slots := 0, locals := 48 } D cI cS (wMo cI h m1 m2 m3 m4 m5 m6 m7 m8 m9 m10 m11 m12 m13 lf tr an pn gr ax ra rp rg rd so sl ces kd pl wt xk xp xw wo su ask shw) [.ref h, .int t, .int fi, .int nn, .int wh] (fX4_tellNights an ces kd pl N Nn t fi wh) := by
  refine kEnter (cc := cX4_tellNights) (maxL := 10) (ret := (some .int)) (by decide) rfl (Nat.le_of_ble_eq_true rfl) ?_
  intro p e s m below meth c ls Qf hQ hx hb hml hr hlocks hown hts hK hP hl
  have hown : s.vm.findClass RX4 = some m.cls := hown
  have hl : lv_has ls 10 [(0, .ref h), (1, .int t), (2, .int fi), (3, .int nn), (4, .int wh)] := hl
  refine lv_iconst (v := 1) hx hb dX4_tellNights_0 (by decide) ?_
  refine lv_aload_n hx hb dX4_tellNights_1 rfl (lv_at hl 0 rfl) ?_
  refine va_get (D := D) (ci := 4) (v := .int an) (C := RX4) (T := TX4) (N := 23) hx hb hts (fun _ h => List.mem_cons_of_mem _ (List.mem_append_right _ h)) hown hK.1 hP 0 rfl rfl 5 (by decide) (hts (.fieldLink RX4 59 "LieNightsModel" "answers" "I") (List.mem_of_getElem? (i := 1) rfl)) (fun _ h9 => h9) rfl dX4_tellNights_2 ?_
  refine lv_ishl hx hb dX4_tellNights_5 ?_
  refine lv_iconst (v := 1) hx hb dX4_tellNights_6 (by decide) ?_
  refine lv_isub hx hb dX4_tellNights_7 ?_
  refine lv_istore (lv' := [(5, .int ((1 <<< (an &&& 31)) - 1)), (0, .ref h), (1, .int t), (2, .int fi), (3, .int nn), (4, .int wh)]) hx hb dX4_tellNights_8 hl (by decide) rfl (fun ls hl => ?_)
  refine lv_bipush (v := (-9)) hx hb dX4_tellNights_10 (by decide) ?_
  refine lv_istore (lv' := [(6, .int (-9)), (5, .int ((1 <<< (an &&& 31)) - 1)), (0, .ref h), (1, .int t), (2, .int fi), (3, .int nn), (4, .int wh)]) hx hb dX4_tellNights_12 hl (by decide) rfl (fun ls hl => ?_)
  refine lv_bipush (v := (-9)) hx hb dX4_tellNights_14 (by decide) ?_
  refine lv_istore (lv' := [(7, .int (-9)), (6, .int (-9)), (5, .int ((1 <<< (an &&& 31)) - 1)), (0, .ref h), (1, .int t), (2, .int fi), (3, .int nn), (4, .int wh)]) hx hb dX4_tellNights_16 hl (by decide) rfl (fun ls hl => ?_)
  refine lv_iconst (v := 0) hx hb dX4_tellNights_18 (by decide) ?_
  refine lv_istore (lv' := [(8, .int 0), (7, .int (-9)), (6, .int (-9)), (5, .int ((1 <<< (an &&& 31)) - 1)), (0, .ref h), (1, .int t), (2, .int fi), (3, .int nn), (4, .int wh)]) hx hb dX4_tellNights_19 hl (by decide) rfl (fun ls hl => ?_)
  have hR1 : (fX4_tellNights an ces kd pl N Nn t fi wh) = (lqr (lq (fun k a => sX4_tellNights_21 ces kd pl N t fi wh k a.1 a.2.1 a.2.2) (((1 <<< (an &&& 31)) - 1), (-9), (-9)) Nn) (fun a => aX4_tellNights_21 wh a.1 a.2.1 a.2.2)) := rfl
  have aft21 : ∀ (v5_21 : Int32) (v6_21 : Int32) (v7_21 : Int32), (fX4_tellNights an ces kd pl N Nn t fi wh) = aX4_tellNights_21 wh v5_21 v6_21 v7_21 →  ∀ (ls : Array Slot), lv_has ls 10 [(0, .ref h), (1, .int t), (2, .int fi), (3, .int nn), (4, .int wh), (5, .int v5_21), (6, .int v6_21), (7, .int v7_21)] → W p l e { frames := 2, cells := 0, slots := 0, locals := 48 } s m ([.ref h, .int t, .int fi, .int nn, .int wh] : List Value).toArray below meth c s.heap [] 0 0 Qf (F0 m 90 ls []) := by
    intro v5_21 v6_21 v7_21 hRa21  ls hl
    refine lv_iload hx hb dX4_tellNights_90 (lv_at hl 4 rfl) ?_
    refine lv_if_ne (tgt := 100) hx hb dX4_tellNights_92 (by decide) (fun c92 => ?_) (fun c92 => ?_)
    · skip
      refine lv_iload hx hb dX4_tellNights_100 (lv_at hl 4 rfl) ?_
      refine lv_iconst (v := 1) hx hb dX4_tellNights_102 (by decide) ?_
      refine lv_icmp_ne (tgt := 111) hx hb dX4_tellNights_103 (by decide) (fun c103 => ?_) (fun c103 => ?_)
      · skip
        refine lv_iload hx hb dX4_tellNights_111 (lv_at hl 7 rfl) ?_
        have hR2 : (fX4_tellNights an ces kd pl N Nn t fi wh) = v7_21 := hRa21.trans (by unfold aX4_tellNights_21; rw [if_neg c92, if_neg c103])
        rw [hQ]
        exact W.iret (v := v7_21) hx hb hr (fun t ht hW => ⟨_, rfl, hR2.symm, ht⟩) (fun q h => by cases h) dX4_tellNights_113
      refine lv_iload hx hb dX4_tellNights_106 (lv_at hl 6 rfl) ?_
      refine lv_goto (tgt := 113) hx hb dX4_tellNights_108 (by decide) ?_
      have hR3 : (fX4_tellNights an ces kd pl N Nn t fi wh) = v6_21 := hRa21.trans (by unfold aX4_tellNights_21; rw [if_neg c92, if_pos c103])
      rw [hQ]
      exact W.iret (v := v6_21) hx hb hr (fun t ht hW => ⟨_, rfl, hR3.symm, ht⟩) (fun q h => by cases h) dX4_tellNights_113
    refine lv_iload hx hb dX4_tellNights_95 (lv_at hl 5 rfl) ?_
    refine lv_goto (tgt := 113) hx hb dX4_tellNights_97 (by decide) ?_
    have hR4 : (fX4_tellNights an ces kd pl N Nn t fi wh) = v5_21 := hRa21.trans (by unfold aX4_tellNights_21; rw [if_pos c92])
    rw [hQ]
    exact W.iret (v := v5_21) hx hb hr (fun t ht hW => ⟨_, rfl, hR4.symm, ht⟩) (fun q h => by cases h) dX4_tellNights_113
  have loop21 : ∀ (n k21 : Nat), k21 ≤ Nn → Nn + 1 ≤ k21 + n → ∀ (v5_21 : Int32) (v6_21 : Int32) (v7_21 : Int32), lq (fun k a => sX4_tellNights_21 ces kd pl N t fi wh k a.1 a.2.1 a.2.2) (((1 <<< (an &&& 31)) - 1), (-9), (-9)) k21 = Sum.inl (v5_21, v6_21, v7_21) →  ∀ (ls : Array Slot), lv_has ls 10 [(0, .ref h), (1, .int t), (2, .int fi), (3, .int nn), (4, .int wh), (5, .int v5_21), (6, .int v6_21), (7, .int v7_21), (8, .int (nI k21))] → W p l e { frames := 2, cells := 0, slots := 0, locals := 48 } s m ([.ref h, .int t, .int fi, .int nn, .int wh] : List Value).toArray below meth c s.heap [] 0 0 Qf (F0 m 21 ls []) := by
    intro n
    induction n with
    | zero => intro k21 h1 h2; exact absurd h2 (by omega)
    | succ n ih =>
      intro k21 hk21 hn21 v5_21 v6_21 v7_21 hacc21  ls hl
      have ih21 := ih
      refine lv_iload hx hb dX4_tellNights_21 (lv_at hl 8 rfl) ?_
      refine lv_iload_n hx hb dX4_tellNights_23 rfl (lv_at hl 3 rfl) ?_
      refine lv_icmp_ge (tgt := 90) hx hb dX4_tellNights_24 (by decide) (fun c24 => ?_) (fun c24 => ?_)
      · skip
        have hkN : k21 = Nn := (kEnd hk21 rfl hn (by omega) c24)
        rw [hkN] at hacc21
        have hR5 : (fX4_tellNights an ces kd pl N Nn t fi wh) = aX4_tellNights_21 wh v5_21 v6_21 v7_21 := hR1.trans (lq_end (x := (v5_21, v6_21, v7_21)) (g := (fun a => aX4_tellNights_21 wh a.1 a.2.1 a.2.2)) hacc21)
        exact aft21 _ _ _ hR5  ls (lv_sub hl [0, 1, 2, 3, 4, 5, 6, 7] rfl)
      have hlt21 : k21 < Nn := (kLt hk21 rfl hn c24)
      refine lv_iload hx hb dX4_tellNights_27 (lv_at hl 6 rfl) ?_
      refine lv_bipush (v := (-9)) hx hb dX4_tellNights_29 (by decide) ?_
      refine lv_icmp_ne (tgt := 90) hx hb dX4_tellNights_31 (by decide) (fun c31 => ?_) (fun c31 => ?_)
      · skip
        have hR6 : sX4_tellNights_21 ces kd pl N t fi wh k21 v5_21 v6_21 v7_21 = (.inr (aX4_tellNights_21 wh v5_21 v6_21 v7_21)) := (by unfold sX4_tellNights_21; rw [if_neg c31])
        have hR7 : (fX4_tellNights an ces kd pl N Nn t fi wh) = aX4_tellNights_21 wh v5_21 v6_21 v7_21 := hR1.trans (lq_exit hacc21 hR6 hlt21)
        exact aft21 _ _ _ hR7  ls (lv_sub hl [0, 1, 2, 3, 4, 5, 6, 7] rfl)
      refine lv_aload_n hx hb dX4_tellNights_34 rfl (lv_at hl 0 rfl) ?_
      refine va_get (D := D) (ci := 4) (v := .ref m3) (C := RX4) (T := TX4) (N := 23) hx hb hts (fun _ h => List.mem_cons_of_mem _ (List.mem_append_right _ h)) hown hK.1 hP 0 rfl rfl 4 (by decide) (hts (.fieldLink RX4 16 "LieNightsModel" "cells" "[I") (List.mem_of_getElem? (i := 2) rfl)) (fun _ h9 => h9) rfl dX4_tellNights_35 ?_
      refine lv_iload_n hx hb dX4_tellNights_38 rfl (lv_at hl 2 rfl) ?_
      refine lv_iload hx hb dX4_tellNights_39 (lv_at hl 8 rfl) ?_
      refine lv_iadd hx hb dX4_tellNights_41 ?_
      refine va_iald hx hb hK.1 hP 3 0 rfl rfl (hcx k21 hlt21) dX4_tellNights_42 ?_
      refine lv_istore (lv' := [(9, .int (ces (fi + (nI k21)).toNatClampNeg)), (0, .ref h), (1, .int t), (2, .int fi), (3, .int nn), (4, .int wh), (5, .int v5_21), (6, .int v6_21), (7, .int v7_21), (8, .int (nI k21))]) hx hb dX4_tellNights_43 hl (by decide) rfl (fun ls hl => ?_)
      refine lv_aload_n hx hb dX4_tellNights_45 rfl (lv_at hl 1 rfl) ?_
      refine lv_iload hx hb dX4_tellNights_46 (lv_at hl 0 rfl) ?_
      refine lv_iload_n hx hb dX4_tellNights_48 rfl (lv_at hl 2 rfl) ?_
      refine kPi (va_runV (As := [.int (ces (fi + (nI k21)).toNatClampNeg), .int t]) (rest := []) ⟨hx, hb, hml, hown, hts⟩ (c_X4_shownBy l D cI cS h m1 m2 m3 m4 m5 m6 m7 m8 m9 m10 m11 m12 m13 lf tr an pn gr ax ra rp rg rd so sl ces kd pl wt xk xp xw wo su ask shw (ces (fi + (nI k21)).toNatClampNeg) t (hce k21 hlt21) hit) (cwV 2 hts gX4_tellNights_X4_shownBy rfl rfl rfl q_X4_shownBy ⟨Nat.le_of_ble_eq_true rfl, Nat.le_of_ble_eq_true rfl⟩) (kPV hK hP [0, 1, 2, 3, 4, 5, 6, 7, 8, 9, 10, 11, 12, 13] rfl (va_recv hK.1 hP (ci := 4) (q0 := 0) rfl rfl) [.int (ces (fi + (nI k21)).toNatClampNeg), .int t]) rfl rfl hl.1 rfl (lv_room (Nat.le_of_ble_eq_true rfl)) dX4_tellNights_49 ⟨Nat.zero_le _, Nat.zero_le _⟩) ?_
      refine lv_istore (lv' := [(7, .int (fX4_shownBy kd pl (ces (fi + (nI k21)).toNatClampNeg) t)), (9, .int (ces (fi + (nI k21)).toNatClampNeg)), (0, .ref h), (1, .int t), (2, .int fi), (3, .int nn), (4, .int wh), (5, .int v5_21), (6, .int v6_21), (8, .int (nI k21))]) hx hb dX4_tellNights_52 hl (by decide) rfl (fun ls hl => ?_)
      refine lv_iload hx hb dX4_tellNights_54 (lv_at hl 7 rfl) ?_
      refine lv_aload_n hx hb dX4_tellNights_56 rfl (lv_at hl 2 rfl) ?_
      refine lv_iload hx hb dX4_tellNights_57 (lv_at hl 1 rfl) ?_
      refine lv_iload hx hb dX4_tellNights_59 (lv_at hl 0 rfl) ?_
      refine lv_iload hx hb dX4_tellNights_61 (lv_at hl 7 rfl) ?_
      refine kPi (va_runV (As := [.int (ces (fi + (nI k21)).toNatClampNeg), .int (fX4_shownBy kd pl (ces (fi + (nI k21)).toNatClampNeg) t), .int v5_21]) (rest := [.int v5_21]) ⟨hx, hb, hml, hown, hts⟩ (c_X4_group l D cI cS h m1 m2 m3 m4 m5 m6 m7 m8 m9 m10 m11 m12 m13 lf tr an pn gr ax ra rp rg rd so sl ces kd pl wt xk xp xw wo su ask shw N (ces (fi + (nI k21)).toNatClampNeg) (fX4_shownBy kd pl (ces (fi + (nI k21)).toNatClampNeg) t) v5_21 ha hN (hce k21 hlt21)) (cwV 3 hts gX4_tellNights_X4_group rfl rfl rfl q_X4_group ⟨Nat.le_of_ble_eq_true rfl, Nat.le_of_ble_eq_true rfl⟩) (kPV hK hP [0, 1, 2, 3, 4, 5, 6, 7, 8, 9, 10, 11, 12, 13] rfl (va_recv hK.1 hP (ci := 4) (q0 := 0) rfl rfl) [.int (ces (fi + (nI k21)).toNatClampNeg), .int (fX4_shownBy kd pl (ces (fi + (nI k21)).toNatClampNeg) t), .int v5_21]) rfl rfl hl.1 rfl (lv_room (Nat.le_of_ble_eq_true rfl)) dX4_tellNights_63 ⟨Nat.zero_le _, Nat.zero_le _⟩) ?_
      refine lv_iand hx hb dX4_tellNights_66 ?_
      refine lv_istore (lv' := [(5, .int (v5_21 &&& (fX4_group kd pl N (ces (fi + (nI k21)).toNatClampNeg) (fX4_shownBy kd pl (ces (fi + (nI k21)).toNatClampNeg) t) v5_21))), (7, .int (fX4_shownBy kd pl (ces (fi + (nI k21)).toNatClampNeg) t)), (9, .int (ces (fi + (nI k21)).toNatClampNeg)), (0, .ref h), (1, .int t), (2, .int fi), (3, .int nn), (4, .int wh), (6, .int v6_21), (8, .int (nI k21))]) hx hb dX4_tellNights_67 hl (by decide) rfl (fun ls hl => ?_)
      refine lv_iload hx hb dX4_tellNights_69 (lv_at hl 2 rfl) ?_
      refine lv_iload_n hx hb dX4_tellNights_71 rfl (lv_at hl 4 rfl) ?_
      refine lv_icmp_ne (tgt := 80) hx hb dX4_tellNights_72 (by decide) (fun c72 => ?_) (fun c72 => ?_)
      · skip
        refine lv_bipush (v := (-9)) hx hb dX4_tellNights_80 (by decide) ?_
        refine lv_istore (lv' := [(6, .int (-9)), (5, .int (v5_21 &&& (fX4_group kd pl N (ces (fi + (nI k21)).toNatClampNeg) (fX4_shownBy kd pl (ces (fi + (nI k21)).toNatClampNeg) t) v5_21))), (7, .int (fX4_shownBy kd pl (ces (fi + (nI k21)).toNatClampNeg) t)), (9, .int (ces (fi + (nI k21)).toNatClampNeg)), (0, .ref h), (1, .int t), (2, .int fi), (3, .int nn), (4, .int wh), (8, .int (nI k21))]) hx hb dX4_tellNights_82 hl (by decide) rfl (fun ls hl => ?_)
        refine lv_iinc (v := (nI (k21 + 1))) (lv' := [(8, .int (nI (k21 + 1))), (6, .int (-9)), (5, .int (v5_21 &&& (fX4_group kd pl N (ces (fi + (nI k21)).toNatClampNeg) (fX4_shownBy kd pl (ces (fi + (nI k21)).toNatClampNeg) t) v5_21))), (7, .int (fX4_shownBy kd pl (ces (fi + (nI k21)).toNatClampNeg) t)), (9, .int (ces (fi + (nI k21)).toNatClampNeg)), (0, .ref h), (1, .int t), (2, .int fi), (3, .int nn), (4, .int wh)]) hx hb dX4_tellNights_84 hl (k := 9) rfl (nI_1 (k21)) (by decide) rfl (fun ls hl => ?_)
        refine lv_goto (tgt := 21) hx hb dX4_tellNights_87 (by decide) ?_
        have hR8 : sX4_tellNights_21 ces kd pl N t fi wh k21 v5_21 v6_21 v7_21 = (.inl ((v5_21 &&& (fX4_group kd pl N (ces (fi + (nI k21)).toNatClampNeg) (fX4_shownBy kd pl (ces (fi + (nI k21)).toNatClampNeg) t) v5_21)), (-9), (fX4_shownBy kd pl (ces (fi + (nI k21)).toNatClampNeg) t))) := (by unfold sX4_tellNights_21; rw [if_pos c31, if_neg c72])
        exact ih21 (k21 + 1) hlt21 (by omega) _ _ _ (lq_next hacc21 hR8)  ls (lv_sub hl [5, 6, 7, 8, 9, 2, 1, 3, 0] rfl)
      refine lv_iload hx hb dX4_tellNights_75 (lv_at hl 9 rfl) ?_
      refine lv_goto (tgt := 82) hx hb dX4_tellNights_77 (by decide) ?_
      refine lv_istore (lv' := [(6, .int (nI k21)), (5, .int (v5_21 &&& (fX4_group kd pl N (ces (fi + (nI k21)).toNatClampNeg) (fX4_shownBy kd pl (ces (fi + (nI k21)).toNatClampNeg) t) v5_21))), (7, .int (fX4_shownBy kd pl (ces (fi + (nI k21)).toNatClampNeg) t)), (9, .int (ces (fi + (nI k21)).toNatClampNeg)), (0, .ref h), (1, .int t), (2, .int fi), (3, .int nn), (4, .int wh), (8, .int (nI k21))]) hx hb dX4_tellNights_82 hl (by decide) rfl (fun ls hl => ?_)
      refine lv_iinc (v := (nI (k21 + 1))) (lv' := [(8, .int (nI (k21 + 1))), (6, .int (nI k21)), (5, .int (v5_21 &&& (fX4_group kd pl N (ces (fi + (nI k21)).toNatClampNeg) (fX4_shownBy kd pl (ces (fi + (nI k21)).toNatClampNeg) t) v5_21))), (7, .int (fX4_shownBy kd pl (ces (fi + (nI k21)).toNatClampNeg) t)), (9, .int (ces (fi + (nI k21)).toNatClampNeg)), (0, .ref h), (1, .int t), (2, .int fi), (3, .int nn), (4, .int wh)]) hx hb dX4_tellNights_84 hl (k := 9) rfl (nI_1 (k21)) (by decide) rfl (fun ls hl => ?_)
      refine lv_goto (tgt := 21) hx hb dX4_tellNights_87 (by decide) ?_
      have hR9 : sX4_tellNights_21 ces kd pl N t fi wh k21 v5_21 v6_21 v7_21 = (.inl ((v5_21 &&& (fX4_group kd pl N (ces (fi + (nI k21)).toNatClampNeg) (fX4_shownBy kd pl (ces (fi + (nI k21)).toNatClampNeg) t) v5_21)), (nI k21), (fX4_shownBy kd pl (ces (fi + (nI k21)).toNatClampNeg) t))) := (by unfold sX4_tellNights_21; rw [if_pos c31, if_pos c72])
      exact ih21 (k21 + 1) hlt21 (by omega) _ _ _ (lq_next hacc21 hR9)  ls (lv_sub hl [5, 6, 7, 8, 9, 2, 1, 3, 0] rfl)
  exact loop21 (Nn + 1) 0 (Nat.zero_le _) (by omega) _ _ _ rfl  ls (lv_sub hl [4, 5, 6, 7, 8, 3, 2, 1, 0] rfl)

def aX4_nights_89 (an : Int32) (ces kd pl : Nat → Int32) (N : Nat) (t sh i nn wh : Int32) (z_89 : Unit) : (Int32 × Int32) := ((fX4_tellNights an ces kd pl N nn.toNatClampNeg t ((60 * sh) + i) wh), 0)
def sX4_nights_89 (an : Int32) (ces : Nat → Int32) (sh i : Int32) (k89 : Nat) (z_89 : Unit) : (Unit) ⊕ (Int32 × Int32) := (if (fX4_isAnswer an (ces (((60 * sh) + i) + (nI k89)).toNatClampNeg)) = 0 then (.inr ((-1), 0)) else (.inl ()))
def fX4_nights (an : Int32) (so sl ces kd pl : Nat → Int32) (N : Nat) (t sh ln i nn wh : Int32) : Int32 × Int32 := (if (fX4_isAnswer an t) = 0 then ((-1), 0) else (if (fX4_isSheet sh) = 0 then ((-1), 0) else (if (fX4_isSort ln) = 0 then ((-2), 0) else (if (fX4_within nn 0 20) = 0 then ((-2), 0) else (if (fX4_within wh 0 2) = 0 then ((-2), 0) else (if (fX4_against so sl sh ln i nn) = 0 then (lqr (lq (fun k a => sX4_nights_89 an ces sh i k a) () nn.toNatClampNeg) (fun a => aX4_nights_89 an ces kd pl N t sh i nn wh a)) else (((-10) - (fX4_against so sl sh ln i nn)), (fX4_against so sl sh ln i nn))))))))
theorem q_X4_nights : yX4_nights.cls = RX4 ∧ yX4_nights.cls ≠ "java/lang/invoke/MethodHandle" ∧ yX4_nights.cls ≠ "java/lang/invoke/VarHandle" ∧ (parseMethodDescriptor yX4_nights.desc).map (fun d => d.parameters.length) = some 6 := by decide +kernel
set_option maxHeartbeats 4000000 in
set_option maxRecDepth 100000 in
theorem c_X4_nights (l : Launch) (D : va_G) (cI cS : ClassId) (h m1 m2 m3 m4 m5 m6 m7 m8 m9 m10 m11 m12 m13 : Nat) (lf tr an pn gr ax ra rp rg rd : Int32) (so sl ces kd pl wt xk xp xw wo su ask shw : Nat → Int32) (N : Nat) (t sh ln i nn wh : Int32) (ha : an = nI N) (hN : N ≤ 6) (hsl : ∀ j, j < 4 → ∃ L : Nat, sl j = nI L ∧ L ≤ 60) : MMi l yX4_nights wsX4_nights { frames := 3, cells := 0, slots := 0, locals := 77 } D cI cS (wMo cI h m1 m2 m3 m4 m5 m6 m7 m8 m9 m10 m11 m12 m13 lf tr an pn gr ax ra rp rg rd so sl ces kd pl wt xk xp xw wo su ask shw) [.ref h, .int t, .int sh, .int ln, .int i, .int nn, .int wh] ((fX4_nights an so sl ces kd pl N t sh ln i nn wh).1) (wMo cI h m1 m2 m3 m4 m5 m6 m7 m8 m9 m10 m11 m12 m13 ((fX4_nights an so sl ces kd pl N t sh ln i nn wh).2) tr an pn gr ax ra rp rg rd so sl ces kd pl wt xk xp xw wo su ask shw) := by
  refine kEnterM (cc := cX4_nights) (maxL := 10) (ret := (some .int)) (by decide) rfl (Nat.le_of_ble_eq_true rfl) ?_
  intro p e s m below meth c ls Qf hQ hx hb hml hr hlocks hown hts hK hP hD hS hl
  have hown : s.vm.findClass RX4 = some m.cls := hown
  have hl : lv_has ls 10 [(0, .ref h), (1, .int t), (2, .int sh), (3, .int ln), (4, .int i), (5, .int nn), (6, .int wh)] := hl
  generalize kA (wMo cI h m1 m2 m3 m4 m5 m6 m7 m8 m9 m10 m11 m12 m13 lf tr an pn gr ax ra rp rg rd so sl ces kd pl wt xk xp xw wo su ask shw) = A at hQ hD hS
  refine lv_aload_n hx hb dX4_nights_0 rfl (lv_at hl 0 rfl) ?_
  refine lv_iconst (v := 0) hx hb dX4_nights_1 (by decide) ?_
  refine va_put (D := D) (ci := 4) (v := .int 0) (ty := tyX4 0) (C := RX4) (T := TX4) (N := 23) hx hb hts (fun _ h => List.mem_cons_of_mem _ (List.mem_append_right _ h)) tyX4 tyX4_ok nmX4 hown hK.1 hP hD hS 0 rfl rfl 0 (by decide) (hts (.fieldLink RX4 49 "LieNightsModel" "fault" "I") (List.mem_of_getElem? (i := 1) rfl)) (fun _ h9 => h9) rfl (tyX4_ok 0 (by decide)) rfl rfl (Nat.le_of_ble_eq_true rfl) dX4_nights_2 (fun H locs hP hD hS => ?_)
  have hP : va_P D vwCl (wMo cI h m1 m2 m3 m4 m5 m6 m7 m8 m9 m10 m11 m12 m13 0 tr an pn gr ax ra rp rg rd so sl ces kd pl wt xk xp xw wo su ask shw) H := hP
  have hD : va_D A (wMo cI h m1 m2 m3 m4 m5 m6 m7 m8 m9 m10 m11 m12 m13 0 tr an pn gr ax ra rp rg rd so sl ces kd pl wt xk xp xw wo su ask shw) := hD
  refine lv_aload_n hx hb dX4_nights_5 rfl (lv_at hl 0 rfl) ?_
  refine lv_iload_n hx hb dX4_nights_6 rfl (lv_at hl 1 rfl) ?_
  refine kPi (va_runV (As := [.int t]) (rest := []) ⟨hx, hb, hml, hown, hts⟩ (c_X4_isAnswer l D cI cS h m1 m2 m3 m4 m5 m6 m7 m8 m9 m10 m11 m12 m13 0 tr an pn gr ax ra rp rg rd so sl ces kd pl wt xk xp xw wo su ask shw t) (cwV 1 hts gX4_nights_X4_isAnswer rfl rfl rfl q_X4_isAnswer ⟨Nat.le_of_ble_eq_true rfl, Nat.le_of_ble_eq_true rfl⟩) (kPV hK hP [0, 1, 2, 3, 4, 5, 6, 7, 8, 9, 10, 11, 12, 13] rfl (va_recv hK.1 hP (ci := 4) (q0 := 0) rfl rfl) [.int t]) rfl rfl hl.1 rfl (lv_room (Nat.le_of_ble_eq_true rfl)) dX4_nights_7 ⟨Nat.zero_le _, Nat.zero_le _⟩) ?_
  refine lv_if_eq (tgt := 20) hx hb dX4_nights_10 (by decide) (fun c10 => ?_) (fun c10 => ?_)
  · skip
    refine lv_iconst (v := (-1)) hx hb dX4_nights_20 (by decide) ?_
    have hR1 : (fX4_nights an so sl ces kd pl N t sh ln i nn wh) = ((-1), 0) := (by unfold fX4_nights; rw [if_pos c10])
    rw [hQ]
    exact W.iret (v := (-1)) hx hb hr (fun t ht hW => ⟨⟨_, (), rfl, (by show _ = _; rw [hR1]), (by show va_P D vwCl _ t.heap; rw [hR1, ht]; exact hP)⟩, hS.F ht⟩) hS.2.2 dX4_nights_21
  refine lv_iload_n hx hb dX4_nights_13 rfl (lv_at hl 2 rfl) ?_
  refine kPi (va_runS (As := [.int sh]) (rest := []) ⟨hx, hb, hml, hown, hts⟩ (c_X4_isSheet l D cI cS sh) (va_cwS 1 hts gX4_nights_X4_isSheet rfl rfl rfl q_X4_isSheet.2 ⟨Nat.le_of_ble_eq_true rfl, Nat.le_of_ble_eq_true rfl⟩) (kPS hK hP [] rfl [.int sh]) rfl rfl hl.1 rfl (lv_room (Nat.le_of_ble_eq_true rfl)) dX4_nights_14 ⟨Nat.zero_le _, Nat.zero_le _⟩) ?_
  refine lv_if_ne (tgt := 22) hx hb dX4_nights_17 (by decide) (fun c17 => ?_) (fun c17 => ?_)
  · skip
    refine lv_iload_n hx hb dX4_nights_22 rfl (lv_at hl 3 rfl) ?_
    refine kPi (va_runS (As := [.int ln]) (rest := []) ⟨hx, hb, hml, hown, hts⟩ (c_X4_isSort l D cI cS ln) (va_cwS 1 hts gX4_nights_X4_isSort rfl rfl rfl q_X4_isSort.2 ⟨Nat.le_of_ble_eq_true rfl, Nat.le_of_ble_eq_true rfl⟩) (kPS hK hP [] rfl [.int ln]) rfl rfl hl.1 rfl (lv_room (Nat.le_of_ble_eq_true rfl)) dX4_nights_23 ⟨Nat.zero_le _, Nat.zero_le _⟩) ?_
    refine lv_if_eq (tgt := 50) hx hb dX4_nights_26 (by decide) (fun c26 => ?_) (fun c26 => ?_)
    · skip
      refine lv_bipush (v := (-2)) hx hb dX4_nights_50 (by decide) ?_
      have hR2 : (fX4_nights an so sl ces kd pl N t sh ln i nn wh) = ((-2), 0) := (by unfold fX4_nights; rw [if_neg c10, if_neg c17, if_pos c26])
      rw [hQ]
      exact W.iret (v := (-2)) hx hb hr (fun t ht hW => ⟨⟨_, (), rfl, (by show _ = _; rw [hR2]), (by show va_P D vwCl _ t.heap; rw [hR2, ht]; exact hP)⟩, hS.F ht⟩) hS.2.2 dX4_nights_52
    refine lv_iload hx hb dX4_nights_29 (lv_at hl 5 rfl) ?_
    refine lv_iconst (v := 0) hx hb dX4_nights_31 (by decide) ?_
    refine lv_bipush (v := 20) hx hb dX4_nights_32 (by decide) ?_
    refine kPi (va_runS (As := [.int nn, .int 0, .int 20]) (rest := []) ⟨hx, hb, hml, hown, hts⟩ (c_X4_within l D cI cS nn 0 20) (va_cwS 3 hts gX4_nights_X4_within rfl rfl rfl q_X4_within.2 ⟨Nat.le_of_ble_eq_true rfl, Nat.le_of_ble_eq_true rfl⟩) (kPS hK hP [] rfl [.int nn, .int 0, .int 20]) rfl rfl hl.1 rfl (lv_room (Nat.le_of_ble_eq_true rfl)) dX4_nights_34 ⟨Nat.zero_le _, Nat.zero_le _⟩) ?_
    refine lv_if_eq (tgt := 50) hx hb dX4_nights_37 (by decide) (fun c37 => ?_) (fun c37 => ?_)
    · skip
      refine lv_bipush (v := (-2)) hx hb dX4_nights_50 (by decide) ?_
      have hR3 : (fX4_nights an so sl ces kd pl N t sh ln i nn wh) = ((-2), 0) := (by unfold fX4_nights; rw [if_neg c10, if_neg c17, if_neg c26, if_pos c37])
      rw [hQ]
      exact W.iret (v := (-2)) hx hb hr (fun t ht hW => ⟨⟨_, (), rfl, (by show _ = _; rw [hR3]), (by show va_P D vwCl _ t.heap; rw [hR3, ht]; exact hP)⟩, hS.F ht⟩) hS.2.2 dX4_nights_52
    refine lv_iload hx hb dX4_nights_40 (lv_at hl 6 rfl) ?_
    refine lv_iconst (v := 0) hx hb dX4_nights_42 (by decide) ?_
    refine lv_iconst (v := 2) hx hb dX4_nights_43 (by decide) ?_
    refine kPi (va_runS (As := [.int wh, .int 0, .int 2]) (rest := []) ⟨hx, hb, hml, hown, hts⟩ (c_X4_within l D cI cS wh 0 2) (va_cwS 3 hts gX4_nights_X4_within rfl rfl rfl q_X4_within.2 ⟨Nat.le_of_ble_eq_true rfl, Nat.le_of_ble_eq_true rfl⟩) (kPS hK hP [] rfl [.int wh, .int 0, .int 2]) rfl rfl hl.1 rfl (lv_room (Nat.le_of_ble_eq_true rfl)) dX4_nights_44 ⟨Nat.zero_le _, Nat.zero_le _⟩) ?_
    refine lv_if_ne (tgt := 53) hx hb dX4_nights_47 (by decide) (fun c47 => ?_) (fun c47 => ?_)
    · skip
      refine lv_aload_n hx hb dX4_nights_53 rfl (lv_at hl 0 rfl) ?_
      refine lv_iload_n hx hb dX4_nights_54 rfl (lv_at hl 2 rfl) ?_
      refine lv_iload_n hx hb dX4_nights_55 rfl (lv_at hl 3 rfl) ?_
      refine lv_iload hx hb dX4_nights_56 (lv_at hl 4 rfl) ?_
      refine lv_iload hx hb dX4_nights_58 (lv_at hl 5 rfl) ?_
      refine kPi (va_runV (As := [.int sh, .int ln, .int i, .int nn]) (rest := []) ⟨hx, hb, hml, hown, hts⟩ (c_X4_against l D cI cS h m1 m2 m3 m4 m5 m6 m7 m8 m9 m10 m11 m12 m13 0 tr an pn gr ax ra rp rg rd so sl ces kd pl wt xk xp xw wo su ask shw sh ln i nn (mSh c17)) (cwV 4 hts gX4_nights_X4_against rfl rfl rfl q_X4_against ⟨Nat.le_of_ble_eq_true rfl, Nat.le_of_ble_eq_true rfl⟩) (kPV hK hP [0, 1, 2, 3, 4, 5, 6, 7, 8, 9, 10, 11, 12, 13] rfl (va_recv hK.1 hP (ci := 4) (q0 := 0) rfl rfl) [.int sh, .int ln, .int i, .int nn]) rfl rfl hl.1 rfl (lv_room (Nat.le_of_ble_eq_true rfl)) dX4_nights_60 ⟨Nat.zero_le _, Nat.zero_le _⟩) ?_
      refine lv_istore (lv' := [(7, .int (fX4_against so sl sh ln i nn)), (0, .ref h), (1, .int t), (2, .int sh), (3, .int ln), (4, .int i), (5, .int nn), (6, .int wh)]) hx hb dX4_nights_63 hl (by decide) rfl (fun ls hl => ?_)
      refine lv_iload hx hb dX4_nights_65 (lv_at hl 0 rfl) ?_
      refine lv_if_eq (tgt := 77) hx hb dX4_nights_67 (by decide) (fun c67 => ?_) (fun c67 => ?_)
      · skip
        refine lv_bipush (v := 60) hx hb dX4_nights_77 (by decide) ?_
        refine lv_iload_n hx hb dX4_nights_79 rfl (lv_at hl 3 rfl) ?_
        refine lv_imul hx hb dX4_nights_80 ?_
        refine lv_iload hx hb dX4_nights_81 (lv_at hl 5 rfl) ?_
        refine lv_iadd hx hb dX4_nights_83 ?_
        refine lv_istore (lv' := [(8, .int ((60 * sh) + i)), (7, .int (fX4_against so sl sh ln i nn)), (0, .ref h), (1, .int t), (2, .int sh), (3, .int ln), (4, .int i), (5, .int nn), (6, .int wh)]) hx hb dX4_nights_84 hl (by decide) rfl (fun ls hl => ?_)
        obtain ⟨S9, a9, b9, L9, es, ea, eb, hS4, hab, hL1, hL2, hL3⟩ := mAg hsl (mSh c17) c67
        have hnn : nn = nI nn.toNatClampNeg := by rw [eb, nI_clamp (by omega)]
        have hb60 : nn.toNatClampNeg ≤ 60 := by rw [eb, nI_clamp (by omega)]; omega
        refine lv_iconst (v := 0) hx hb dX4_nights_86 (by decide) ?_
        refine lv_istore (lv' := [(9, .int 0), (8, .int ((60 * sh) + i)), (7, .int (fX4_against so sl sh ln i nn)), (0, .ref h), (1, .int t), (2, .int sh), (3, .int ln), (4, .int i), (5, .int nn), (6, .int wh)]) hx hb dX4_nights_87 hl (by decide) rfl (fun ls hl => ?_)
        have hR4 : (fX4_nights an so sl ces kd pl N t sh ln i nn wh) = (lqr (lq (fun k a => sX4_nights_89 an ces sh i k a) () nn.toNatClampNeg) (fun a => aX4_nights_89 an ces kd pl N t sh i nn wh a)) := (by unfold fX4_nights; rw [if_neg c10, if_neg c17, if_neg c26, if_neg c37, if_neg c47, if_pos c67])
        have loop89 : ∀ (n k89 : Nat), k89 ≤ nn.toNatClampNeg → nn.toNatClampNeg + 1 ≤ k89 + n → ∀ (z_89 : Unit), lq (fun k a => sX4_nights_89 an ces sh i k a) () k89 = Sum.inl z_89 → (∀ j, j < k89 → ¬ (fX4_isAnswer an (ces ((((60 * sh) + i)) + (nI j)).toNatClampNeg)) = 0) → ∀ (H : Heap) (locs : List Loc), va_P D vwCl (wMo cI h m1 m2 m3 m4 m5 m6 m7 m8 m9 m10 m11 m12 m13 0 tr an pn gr ax ra rp rg rd so sl ces kd pl wt xk xp xw wo su ask shw) H → va_D A (wMo cI h m1 m2 m3 m4 m5 m6 m7 m8 m9 m10 m11 m12 m13 0 tr an pn gr ax ra rp rg rd so sl ces kd pl wt xk xp xw wo su ask shw) → va_S A s.heap H locs → ∀ (ls : Array Slot), lv_has ls 10 [(0, .ref h), (1, .int t), (2, .int sh), (3, .int ln), (4, .int i), (5, .int nn), (6, .int wh), (7, .int (fX4_against so sl sh ln i nn)), (8, .int ((60 * sh) + i)), (9, .int (nI k89))] → W p l e { frames := 3, cells := 0, slots := 0, locals := 77 } s m ([.ref h, .int t, .int sh, .int ln, .int i, .int nn, .int wh] : List Value).toArray below meth c H locs 0 0 Qf (F0 m 89 ls []) := by
          intro n
          induction n with
          | zero => intro k89 h1 h2; exact absurd h2 (by omega)
          | succ n ih =>
            intro k89 hk89 hn89 z_89 hacc89 hin H locs hP hD hS ls hl
            have ih89 := ih
            refine lv_iload hx hb dX4_nights_89 (lv_at hl 9 rfl) ?_
            refine lv_iload hx hb dX4_nights_91 (lv_at hl 5 rfl) ?_
            refine lv_icmp_ge (tgt := 121) hx hb dX4_nights_93 (by decide) (fun c93 => ?_) (fun c93 => ?_)
            · skip
              have hkN : k89 = nn.toNatClampNeg := (kEnd hk89 rfl hnn (by omega) c93)
              rw [hkN] at hacc89
              have hR5 : (fX4_nights an so sl ces kd pl N t sh ln i nn wh) = aX4_nights_89 an ces kd pl N t sh i nn wh z_89 := hR4.trans (lq_end (x := z_89) (g := (fun a => aX4_nights_89 an ces kd pl N t sh i nn wh a)) hacc89)
              refine lv_aload_n hx hb dX4_nights_121 rfl (lv_at hl 0 rfl) ?_
              refine lv_iload_n hx hb dX4_nights_122 rfl (lv_at hl 1 rfl) ?_
              refine lv_iload hx hb dX4_nights_123 (lv_at hl 8 rfl) ?_
              refine lv_iload hx hb dX4_nights_125 (lv_at hl 5 rfl) ?_
              refine lv_iload hx hb dX4_nights_127 (lv_at hl 6 rfl) ?_
              refine kPi (va_runV (As := [.int t, .int ((60 * sh) + i), .int nn, .int wh]) (rest := []) ⟨hx, hb, hml, hown, hts⟩ (c_X4_tellNights l D cI cS h m1 m2 m3 m4 m5 m6 m7 m8 m9 m10 m11 m12 m13 0 tr an pn gr ax ra rp rg rd so sl ces kd pl wt xk xp xw wo su ask shw N nn.toNatClampNeg t ((60 * sh) + i) nn wh ha hN (mAns ha hN c10) hnn hb60 (fun k hk => mCellK es ea eb hS4 hab hk) (fun k hk => mAns ha hN (hin k (by rw [hkN]; exact hk)))) (cwV 4 hts gX4_nights_X4_tellNights rfl rfl rfl q_X4_tellNights ⟨Nat.le_of_ble_eq_true rfl, Nat.le_of_ble_eq_true rfl⟩) (kPV hK hP [0, 1, 2, 3, 4, 5, 6, 7, 8, 9, 10, 11, 12, 13] rfl (va_recv hK.1 hP (ci := 4) (q0 := 0) rfl rfl) [.int t, .int ((60 * sh) + i), .int nn, .int wh]) rfl rfl hl.1 rfl (lv_room (Nat.le_of_ble_eq_true rfl)) dX4_nights_129 ⟨Nat.zero_le _, Nat.zero_le _⟩) ?_
              have hR6 : (fX4_nights an so sl ces kd pl N t sh ln i nn wh) = ((fX4_tellNights an ces kd pl N nn.toNatClampNeg t ((60 * sh) + i) wh), 0) := hR5.trans rfl
              rw [hQ]
              exact W.iret (v := (fX4_tellNights an ces kd pl N nn.toNatClampNeg t ((60 * sh) + i) wh)) hx hb hr (fun t ht hW => ⟨⟨_, (), rfl, (by show _ = _; rw [hR6]), (by show va_P D vwCl _ t.heap; rw [hR6, ht]; exact hP)⟩, hS.F ht⟩) hS.2.2 dX4_nights_132
            have hlt89 : k89 < nn.toNatClampNeg := (kLt hk89 rfl hnn c93)
            refine lv_aload_n hx hb dX4_nights_96 rfl (lv_at hl 0 rfl) ?_
            refine lv_aload_n hx hb dX4_nights_97 rfl (lv_at hl 0 rfl) ?_
            refine va_get (D := D) (ci := 4) (v := .ref m3) (C := RX4) (T := TX4) (N := 23) hx hb hts (fun _ h => List.mem_cons_of_mem _ (List.mem_append_right _ h)) hown hK.1 hP 0 rfl rfl 4 (by decide) (hts (.fieldLink RX4 16 "LieNightsModel" "cells" "[I") (List.mem_of_getElem? (i := 2) rfl)) (fun _ h9 => h9) rfl dX4_nights_98 ?_
            refine lv_iload hx hb dX4_nights_101 (lv_at hl 8 rfl) ?_
            refine lv_iload hx hb dX4_nights_103 (lv_at hl 9 rfl) ?_
            refine lv_iadd hx hb dX4_nights_105 ?_
            refine va_iald hx hb hK.1 hP 3 0 rfl rfl (mCellK es ea eb hS4 hab hlt89) dX4_nights_106 ?_
            refine kPi (va_runV (As := [.int (ces (((60 * sh) + i) + (nI k89)).toNatClampNeg)]) (rest := []) ⟨hx, hb, hml, hown, hts⟩ (c_X4_isAnswer l D cI cS h m1 m2 m3 m4 m5 m6 m7 m8 m9 m10 m11 m12 m13 0 tr an pn gr ax ra rp rg rd so sl ces kd pl wt xk xp xw wo su ask shw (ces (((60 * sh) + i) + (nI k89)).toNatClampNeg)) (cwV 1 hts gX4_nights_X4_isAnswer rfl rfl rfl q_X4_isAnswer ⟨Nat.le_of_ble_eq_true rfl, Nat.le_of_ble_eq_true rfl⟩) (kPV hK hP [0, 1, 2, 3, 4, 5, 6, 7, 8, 9, 10, 11, 12, 13] rfl (va_recv hK.1 hP (ci := 4) (q0 := 0) rfl rfl) [.int (ces (((60 * sh) + i) + (nI k89)).toNatClampNeg)]) rfl rfl hl.1 rfl (lv_room (Nat.le_of_ble_eq_true rfl)) dX4_nights_107 ⟨Nat.zero_le _, Nat.zero_le _⟩) ?_
            refine lv_if_ne (tgt := 115) hx hb dX4_nights_110 (by decide) (fun c110 => ?_) (fun c110 => ?_)
            · skip
              refine lv_iinc (v := (nI (k89 + 1))) (lv' := [(9, .int (nI (k89 + 1))), (0, .ref h), (1, .int t), (2, .int sh), (3, .int ln), (4, .int i), (5, .int nn), (6, .int wh), (7, .int (fX4_against so sl sh ln i nn)), (8, .int ((60 * sh) + i))]) hx hb dX4_nights_115 hl (k := 9) rfl (nI_1 (k89)) (by decide) rfl (fun ls hl => ?_)
              refine lv_goto (tgt := 89) hx hb dX4_nights_118 (by decide) ?_
              have hR7 : sX4_nights_89 an ces sh i k89 z_89 = (.inl ()) := (by unfold sX4_nights_89; rw [if_neg c110])
              exact ih89 (k89 + 1) hlt89 (by omega) _ (lq_next hacc89 hR7) (fun j hj => (Nat.lt_succ_iff_lt_or_eq.mp hj).elim (hin j) (fun e9 => by rw [e9]; exact c110)) _ _ hP hD hS ls (lv_sub hl [1, 2, 3, 4, 5, 6, 7, 8, 9, 0] rfl)
            refine lv_iconst (v := (-1)) hx hb dX4_nights_113 (by decide) ?_
            have hR8 : sX4_nights_89 an ces sh i k89 z_89 = (.inr ((-1), 0)) := (by unfold sX4_nights_89; rw [if_pos c110])
            have hR9 : (fX4_nights an so sl ces kd pl N t sh ln i nn wh) = ((-1), 0) := hR4.trans (lq_exit hacc89 hR8 hlt89)
            rw [hQ]
            exact W.iret (v := (-1)) hx hb hr (fun t ht hW => ⟨⟨_, (), rfl, (by show _ = _; rw [hR9]), (by show va_P D vwCl _ t.heap; rw [hR9, ht]; exact hP)⟩, hS.F ht⟩) hS.2.2 dX4_nights_114
        exact loop89 (nn.toNatClampNeg + 1) 0 (Nat.zero_le _) (by omega) _ rfl (fun j hj => absurd hj (Nat.not_lt_zero j)) _ _ hP hD hS ls (lv_sub hl [3, 4, 5, 6, 7, 8, 9, 2, 1, 0] rfl)
      refine lv_aload_n hx hb dX4_nights_70 rfl (lv_at hl 1 rfl) ?_
      refine lv_iload hx hb dX4_nights_71 (lv_at hl 0 rfl) ?_
      refine kMi (wl' := (wMo cI h m1 m2 m3 m4 m5 m6 m7 m8 m9 m10 m11 m12 m13 (fX4_against so sl sh ln i nn) tr an pn gr ax ra rp rg rd so sl ces kd pl wt xk xp xw wo su ask shw)) (wc := (wMo cI h m1 m2 m3 m4 m5 m6 m7 m8 m9 m10 m11 m12 m13 0 tr an pn gr ax ra rp rg rd so sl ces kd pl wt xk xp xw wo su ask shw)) (w1 := (wMo cI h m1 m2 m3 m4 m5 m6 m7 m8 m9 m10 m11 m12 m13 (fX4_against so sl sh ln i nn) tr an pn gr ax ra rp rg rd so sl ces kd pl wt xk xp xw wo su ask shw)) hP hD hS [0, 1, 2, 3, 4, 5, 6, 7, 8, 9, 10, 11, 12, 13] rfl rfl rfl (va_runV (As := [.int (fX4_against so sl sh ln i nn)]) (rest := []) ⟨hx, hb, hml, hown, hts⟩ (c_X4_fails l D cI cS h m1 m2 m3 m4 m5 m6 m7 m8 m9 m10 m11 m12 m13 0 tr an pn gr ax ra rp rg rd so sl ces kd pl wt xk xp xw wo su ask shw (fX4_against so sl sh ln i nn)) (cwV 1 hts gX4_nights_X4_fails rfl rfl rfl q_X4_fails ⟨Nat.le_of_ble_eq_true rfl, Nat.le_of_ble_eq_true rfl⟩) (kMV hK hP hD [0, 1, 2, 3, 4, 5, 6, 7, 8, 9, 10, 11, 12, 13] rfl rfl (va_recv hK.1 hP (ci := 4) (q0 := 0) rfl rfl) [.int (fX4_against so sl sh ln i nn)]) rfl rfl hl.1 rfl (lv_room (Nat.le_of_ble_eq_true rfl)) dX4_nights_73 ⟨Nat.zero_le _, Nat.zero_le _⟩) (fun H locs hP hD hS => ?_)
      have hR10 : (fX4_nights an so sl ces kd pl N t sh ln i nn wh) = (((-10) - (fX4_against so sl sh ln i nn)), (fX4_against so sl sh ln i nn)) := (by unfold fX4_nights; rw [if_neg c10, if_neg c17, if_neg c26, if_neg c37, if_neg c47, if_neg c67])
      rw [hQ]
      exact W.iret (v := ((-10) - (fX4_against so sl sh ln i nn))) hx hb hr (fun t ht hW => ⟨⟨_, (), rfl, (by show _ = _; rw [hR10]), (by show va_P D vwCl _ t.heap; rw [hR10, ht]; exact hP)⟩, hS.F ht⟩) hS.2.2 dX4_nights_76
    refine lv_bipush (v := (-2)) hx hb dX4_nights_50 (by decide) ?_
    have hR11 : (fX4_nights an so sl ces kd pl N t sh ln i nn wh) = ((-2), 0) := (by unfold fX4_nights; rw [if_neg c10, if_neg c17, if_neg c26, if_neg c37, if_pos c47])
    rw [hQ]
    exact W.iret (v := (-2)) hx hb hr (fun t ht hW => ⟨⟨_, (), rfl, (by show _ = _; rw [hR11]), (by show va_P D vwCl _ t.heap; rw [hR11, ht]; exact hP)⟩, hS.F ht⟩) hS.2.2 dX4_nights_52
  refine lv_iconst (v := (-1)) hx hb dX4_nights_20 (by decide) ?_
  have hR12 : (fX4_nights an so sl ces kd pl N t sh ln i nn wh) = ((-1), 0) := (by unfold fX4_nights; rw [if_neg c10, if_pos c17])
  rw [hQ]
  exact W.iret (v := (-1)) hx hb hr (fun t ht hW => ⟨⟨_, (), rfl, (by show _ = _; rw [hR12]), (by show va_P D vwCl _ t.heap; rw [hR12, ht]; exact hP)⟩, hS.F ht⟩) hS.2.2 dX4_nights_21
