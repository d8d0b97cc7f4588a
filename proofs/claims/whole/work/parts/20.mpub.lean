def aX4_parts_39 (v3_39 : Int32) : Int32 := v3_39
def sX4_parts_39 (kd pl : Nat → Int32) (N : Nat) (x se : Int32) (k39 : Nat) (v3_39 : Int32) : (Int32) := (if (fX4_group kd pl N x (nI k39) se) = 0 then (v3_39 + 0) else (v3_39 + 1))
def fX4_parts (an : Int32) (kd pl : Nat → Int32) (N : Nat) (x se : Int32) : Int32 := (if (fX4_isAnswer an x) = 0 then (-1) else (if (fX4_isSet an se) = 0 then (-2) else (if ((se >>> (x &&& 31)) &&& 1) = 1 then (aX4_parts_39  (lp (fun k a => sX4_parts_39 kd pl N x se k a) 1 11)) else (aX4_parts_39  (lp (fun k a => sX4_parts_39 kd pl N x se k a) 0 11)))))
theorem q_X4_parts : yX4_parts.cls = RX4 ∧ yX4_parts.cls ≠ "java/lang/invoke/MethodHandle" ∧ yX4_parts.cls ≠ "java/lang/invoke/VarHandle" ∧ (parseMethodDescriptor yX4_parts.desc).map (fun d => d.parameters.length) = some 2 := by decide +kernel
set_option maxHeartbeats 4000000 in
set_option maxRecDepth 100000 in
theorem c_X4_parts (l : Launch) (D : va_G) (cI cS : ClassId) (h m1 m2 m3 m4 m5 m6 m7 m8 m9 m10 m11 m12 m13 : Nat) (lf tr an pn gr ax ra rp rg rd : Int32) (so sl ces kd pl wt xk xp xw wo su ask shw : Nat → Int32) (N : Nat) (x se : Int32) (ha : an = nI N) (hN : N ≤ 6) : PMi l yX4_parts wsX4_parts { frames := 2, cells := 0, slots := 0, locals := 48 } D cI cS (wMo cI h m1 m2 m3 m4 m5 m6 m7 m8 m9 m10 m11 m12 m13 lf tr an pn gr ax ra rp rg rd so sl ces kd pl wt xk xp xw wo su ask shw) [.ref h, .int x, .int se] (fX4_parts an kd pl N x se) := by
  refine kEnter (cc := cX4_parts) (maxL := 5) (ret := (some .int)) (by decide) rfl (Nat.le_of_ble_eq_true rfl) ?_
  intro p e s m below meth c ls Qf hQ hx hb hml hr hlocks hown hts hK hP hl
  have hown : s.vm.findClass RX4 = some m.cls := hown
  have hl : lv_has ls 5 [(0, .ref h), (1, .int x), (2, .int se)] := hl
  refine lv_aload_n hx hb dX4_parts_0 rfl (lv_at hl 0 rfl) ?_
  refine lv_iload_n hx hb dX4_parts_1 rfl (lv_at hl 1 rfl) ?_
  refine kPi (va_runV (As := [.int x]) (rest := []) ⟨hx, hb, hml, hown, hts⟩ (c_X4_isAnswer l D cI cS h m1 m2 m3 m4 m5 m6 m7 m8 m9 m10 m11 m12 m13 lf tr an pn gr ax ra rp rg rd so sl ces kd pl wt xk xp xw wo su ask shw x) (cwV 1 hts gX4_parts_X4_isAnswer rfl rfl rfl q_X4_isAnswer ⟨Nat.le_of_ble_eq_true rfl, Nat.le_of_ble_eq_true rfl⟩) (kPV hK hP [0, 1, 2, 3, 4, 5, 6, 7, 8, 9, 10, 11, 12, 13] rfl (va_recv hK.1 hP (ci := 4) (q0 := 0) rfl rfl) [.int x]) rfl rfl hl.1 rfl (lv_room (Nat.le_of_ble_eq_true rfl)) dX4_parts_2 ⟨Nat.zero_le _, Nat.zero_le _⟩) ?_
  refine lv_if_ne (tgt := 10) hx hb dX4_parts_5 (by decide) (fun c5 => ?_) (fun c5 => ?_)
  · skip
    refine lv_aload_n hx hb dX4_parts_10 rfl (lv_at hl 0 rfl) ?_
    refine lv_iload_n hx hb dX4_parts_11 rfl (lv_at hl 2 rfl) ?_
    refine kPi (va_runV (As := [.int se]) (rest := []) ⟨hx, hb, hml, hown, hts⟩ (c_X4_isSet l D cI cS h m1 m2 m3 m4 m5 m6 m7 m8 m9 m10 m11 m12 m13 lf tr an pn gr ax ra rp rg rd so sl ces kd pl wt xk xp xw wo su ask shw se) (cwV 1 hts gX4_parts_X4_isSet rfl rfl rfl q_X4_isSet ⟨Nat.le_of_ble_eq_true rfl, Nat.le_of_ble_eq_true rfl⟩) (kPV hK hP [0, 1, 2, 3, 4, 5, 6, 7, 8, 9, 10, 11, 12, 13] rfl (va_recv hK.1 hP (ci := 4) (q0 := 0) rfl rfl) [.int se]) rfl rfl hl.1 rfl (lv_room (Nat.le_of_ble_eq_true rfl)) dX4_parts_12 ⟨Nat.zero_le _, Nat.zero_le _⟩) ?_
    refine lv_if_ne (tgt := 21) hx hb dX4_parts_15 (by decide) (fun c15 => ?_) (fun c15 => ?_)
    · skip
      refine lv_iload_n hx hb dX4_parts_21 rfl (lv_at hl 2 rfl) ?_
      refine lv_iload_n hx hb dX4_parts_22 rfl (lv_at hl 1 rfl) ?_
      refine lv_ishr hx hb dX4_parts_23 ?_
      refine lv_iconst (v := 1) hx hb dX4_parts_24 (by decide) ?_
      refine lv_iand hx hb dX4_parts_25 ?_
      refine lv_iconst (v := 1) hx hb dX4_parts_26 (by decide) ?_
      refine lv_icmp_ne (tgt := 34) hx hb dX4_parts_27 (by decide) (fun c27 => ?_) (fun c27 => ?_)
      · skip
        refine lv_iconst (v := 0) hx hb dX4_parts_34 (by decide) ?_
        refine lv_istore_n (lv' := [(3, .int 0), (0, .ref h), (1, .int x), (2, .int se)]) hx hb dX4_parts_35 rfl hl (by decide) rfl (fun ls hl => ?_)
        refine lv_iconst (v := 0) hx hb dX4_parts_36 (by decide) ?_
        refine lv_istore (lv' := [(4, .int 0), (3, .int 0), (0, .ref h), (1, .int x), (2, .int se)]) hx hb dX4_parts_37 hl (by decide) rfl (fun ls hl => ?_)
        have hR1 : (fX4_parts an kd pl N x se) = (aX4_parts_39  (lp (fun k a => sX4_parts_39 kd pl N x se k a) 0 11)) := (by unfold fX4_parts; rw [if_neg c5, if_neg c15, if_neg c27])
        have loop39 : ∀ (n k39 : Nat), k39 ≤ 11 → 11 + 1 ≤ k39 + n → ∀ (v3_39 : Int32), lp (fun k a => sX4_parts_39 kd pl N x se k a) 0 k39 = v3_39 →  ∀ (ls : Array Slot), lv_has ls 5 [(0, .ref h), (1, .int x), (2, .int se), (3, .int v3_39), (4, .int (nI k39))] → W p l e { frames := 2, cells := 0, slots := 0, locals := 48 } s m ([.ref h, .int x, .int se] : List Value).toArray below meth c s.heap [] 0 0 Qf (F0 m 39 ls []) := by
          intro n
          induction n with
          | zero => intro k39 h1 h2; exact absurd h2 (by omega)
          | succ n ih =>
            intro k39 hk39 hn39 v3_39 hacc39  ls hl
            have ih39 := ih
            refine lv_iload hx hb dX4_parts_39 (lv_at hl 4 rfl) ?_
            refine lv_bipush (v := 10) hx hb dX4_parts_41 (by decide) ?_
            refine lv_icmp_gt (tgt := 71) hx hb dX4_parts_43 (by decide) (fun c43 => ?_) (fun c43 => ?_)
            · skip
              have hkN : k39 = 11 := (kEndG (N := 10) hk39 rfl rfl (by omega) c43)
              rw [hkN] at hacc39
              have hR2 : (fX4_parts an kd pl N x se) = aX4_parts_39  v3_39 := hR1.trans (lp_end (x := v3_39) (g := (fun a => aX4_parts_39  a)) hacc39)
              refine lv_iload_n hx hb dX4_parts_71 rfl (lv_at hl 3 rfl) ?_
              have hR3 : (fX4_parts an kd pl N x se) = v3_39 := hR2.trans rfl
              rw [hQ]
              exact W.iret (v := v3_39) hx hb hr (fun t ht hW => ⟨_, rfl, hR3.symm, ht⟩) (fun q h => by cases h) dX4_parts_72
            have hlt39 : k39 < 11 := (kLtG (N := 10) hk39 rfl rfl (by omega) c43)
            refine lv_iload_n hx hb dX4_parts_46 rfl (lv_at hl 3 rfl) ?_
            refine lv_aload_n hx hb dX4_parts_47 rfl (lv_at hl 0 rfl) ?_
            refine lv_iload_n hx hb dX4_parts_48 rfl (lv_at hl 1 rfl) ?_
            refine lv_iload hx hb dX4_parts_49 (lv_at hl 4 rfl) ?_
            refine lv_iload_n hx hb dX4_parts_51 rfl (lv_at hl 2 rfl) ?_
            refine kPi (va_runV (As := [.int x, .int (nI k39), .int se]) (rest := [.int v3_39]) ⟨hx, hb, hml, hown, hts⟩ (c_X4_group l D cI cS h m1 m2 m3 m4 m5 m6 m7 m8 m9 m10 m11 m12 m13 lf tr an pn gr ax ra rp rg rd so sl ces kd pl wt xk xp xw wo su ask shw N x (nI k39) se ha hN (mAns ha hN c5)) (cwV 3 hts gX4_parts_X4_group rfl rfl rfl q_X4_group ⟨Nat.le_of_ble_eq_true rfl, Nat.le_of_ble_eq_true rfl⟩) (kPV hK hP [0, 1, 2, 3, 4, 5, 6, 7, 8, 9, 10, 11, 12, 13] rfl (va_recv hK.1 hP (ci := 4) (q0 := 0) rfl rfl) [.int x, .int (nI k39), .int se]) rfl rfl hl.1 rfl (lv_room (Nat.le_of_ble_eq_true rfl)) dX4_parts_52 ⟨Nat.zero_le _, Nat.zero_le _⟩) ?_
            refine lv_if_ne (tgt := 62) hx hb dX4_parts_55 (by decide) (fun c55 => ?_) (fun c55 => ?_)
            · skip
              refine lv_iconst (v := 1) hx hb dX4_parts_62 (by decide) ?_
              refine lv_iadd hx hb dX4_parts_63 ?_
              refine lv_istore_n (lv' := [(3, .int (v3_39 + 1)), (0, .ref h), (1, .int x), (2, .int se), (4, .int (nI k39))]) hx hb dX4_parts_64 rfl hl (by decide) rfl (fun ls hl => ?_)
              refine lv_iinc (v := (nI (k39 + 1))) (lv' := [(4, .int (nI (k39 + 1))), (3, .int (v3_39 + 1)), (0, .ref h), (1, .int x), (2, .int se)]) hx hb dX4_parts_65 hl (k := 4) rfl (nI_1 (k39)) (by decide) rfl (fun ls hl => ?_)
              refine lv_goto (tgt := 39) hx hb dX4_parts_68 (by decide) ?_
              have hR4 : sX4_parts_39 kd pl N x se k39 v3_39 = (v3_39 + 1) := (by unfold sX4_parts_39; rw [if_neg c55])
              exact ih39 (k39 + 1) hlt39 (by omega) _ (lp_next hacc39 hR4)  ls (lv_sub hl [2, 3, 4, 1, 0] rfl)
            refine lv_iconst (v := 0) hx hb dX4_parts_58 (by decide) ?_
            refine lv_goto (tgt := 63) hx hb dX4_parts_59 (by decide) ?_
            refine lv_iadd hx hb dX4_parts_63 ?_
            refine lv_istore_n (lv' := [(3, .int (v3_39 + 0)), (0, .ref h), (1, .int x), (2, .int se), (4, .int (nI k39))]) hx hb dX4_parts_64 rfl hl (by decide) rfl (fun ls hl => ?_)
            refine lv_iinc (v := (nI (k39 + 1))) (lv' := [(4, .int (nI (k39 + 1))), (3, .int (v3_39 + 0)), (0, .ref h), (1, .int x), (2, .int se)]) hx hb dX4_parts_65 hl (k := 4) rfl (nI_1 (k39)) (by decide) rfl (fun ls hl => ?_)
            refine lv_goto (tgt := 39) hx hb dX4_parts_68 (by decide) ?_
            have hR5 : sX4_parts_39 kd pl N x se k39 v3_39 = (v3_39 + 0) := (by unfold sX4_parts_39; rw [if_pos c55])
            exact ih39 (k39 + 1) hlt39 (by omega) _ (lp_next hacc39 hR5)  ls (lv_sub hl [2, 3, 4, 1, 0] rfl)
        exact loop39 (11 + 1) 0 (Nat.zero_le _) (by omega) _ rfl  ls (lv_sub hl [2, 3, 4, 1, 0] rfl)
      refine lv_iconst (v := 1) hx hb dX4_parts_30 (by decide) ?_
      refine lv_goto (tgt := 35) hx hb dX4_parts_31 (by decide) ?_
      refine lv_istore_n (lv' := [(3, .int 1), (0, .ref h), (1, .int x), (2, .int se)]) hx hb dX4_parts_35 rfl hl (by decide) rfl (fun ls hl => ?_)
      refine lv_iconst (v := 0) hx hb dX4_parts_36 (by decide) ?_
      refine lv_istore (lv' := [(4, .int 0), (3, .int 1), (0, .ref h), (1, .int x), (2, .int se)]) hx hb dX4_parts_37 hl (by decide) rfl (fun ls hl => ?_)
      have hR6 : (fX4_parts an kd pl N x se) = (aX4_parts_39  (lp (fun k a => sX4_parts_39 kd pl N x se k a) 1 11)) := (by unfold fX4_parts; rw [if_neg c5, if_neg c15, if_pos c27])
      have loop39 : ∀ (n k39 : Nat), k39 ≤ 11 → 11 + 1 ≤ k39 + n → ∀ (v3_39 : Int32), lp (fun k a => sX4_parts_39 kd pl N x se k a) 1 k39 = v3_39 →  ∀ (ls : Array Slot), lv_has ls 5 [(0, .ref h), (1, .int x), (2, .int se), (3, .int v3_39), (4, .int (nI k39))] → W p l e { frames := 2, cells := 0, slots := 0, locals := 48 } s m ([.ref h, .int x, .int se] : List Value).toArray below meth c s.heap [] 0 0 Qf (F0 m 39 ls []) := by
        intro n
        induction n with
        | zero => intro k39 h1 h2; exact absurd h2 (by omega)
        | succ n ih =>
          intro k39 hk39 hn39 v3_39 hacc39  ls hl
          have ih39 := ih
          refine lv_iload hx hb dX4_parts_39 (lv_at hl 4 rfl) ?_
          refine lv_bipush (v := 10) hx hb dX4_parts_41 (by decide) ?_
          refine lv_icmp_gt (tgt := 71) hx hb dX4_parts_43 (by decide) (fun c43 => ?_) (fun c43 => ?_)
          · skip
            have hkN : k39 = 11 := (kEndG (N := 10) hk39 rfl rfl (by omega) c43)
            rw [hkN] at hacc39
            have hR7 : (fX4_parts an kd pl N x se) = aX4_parts_39  v3_39 := hR6.trans (lp_end (x := v3_39) (g := (fun a => aX4_parts_39  a)) hacc39)
            refine lv_iload_n hx hb dX4_parts_71 rfl (lv_at hl 3 rfl) ?_
            have hR8 : (fX4_parts an kd pl N x se) = v3_39 := hR7.trans rfl
            rw [hQ]
            exact W.iret (v := v3_39) hx hb hr (fun t ht hW => ⟨_, rfl, hR8.symm, ht⟩) (fun q h => by cases h) dX4_parts_72
          have hlt39 : k39 < 11 := (kLtG (N := 10) hk39 rfl rfl (by omega) c43)
          refine lv_iload_n hx hb dX4_parts_46 rfl (lv_at hl 3 rfl) ?_
          refine lv_aload_n hx hb dX4_parts_47 rfl (lv_at hl 0 rfl) ?_
          refine lv_iload_n hx hb dX4_parts_48 rfl (lv_at hl 1 rfl) ?_
          refine lv_iload hx hb dX4_parts_49 (lv_at hl 4 rfl) ?_
          refine lv_iload_n hx hb dX4_parts_51 rfl (lv_at hl 2 rfl) ?_
          refine kPi (va_runV (As := [.int x, .int (nI k39), .int se]) (rest := [.int v3_39]) ⟨hx, hb, hml, hown, hts⟩ (c_X4_group l D cI cS h m1 m2 m3 m4 m5 m6 m7 m8 m9 m10 m11 m12 m13 lf tr an pn gr ax ra rp rg rd so sl ces kd pl wt xk xp xw wo su ask shw N x (nI k39) se ha hN (mAns ha hN c5)) (cwV 3 hts gX4_parts_X4_group rfl rfl rfl q_X4_group ⟨Nat.le_of_ble_eq_true rfl, Nat.le_of_ble_eq_true rfl⟩) (kPV hK hP [0, 1, 2, 3, 4, 5, 6, 7, 8, 9, 10, 11, 12, 13] rfl (va_recv hK.1 hP (ci := 4) (q0 := 0) rfl rfl) [.int x, .int (nI k39), .int se]) rfl rfl hl.1 rfl (lv_room (Nat.le_of_ble_eq_true rfl)) dX4_parts_52 ⟨Nat.zero_le _, Nat.zero_le _⟩) ?_
          refine lv_if_ne (tgt := 62) hx hb dX4_parts_55 (by decide) (fun c55 => ?_) (fun c55 => ?_)
          · skip
            refine lv_iconst (v := 1) hx hb dX4_parts_62 (by decide) ?_
            refine lv_iadd hx hb dX4_parts_63 ?_
            refine lv_istore_n (lv' := [(3, .int (v3_39 + 1)), (0, .ref h), (1, .int x), (2, .int se), (4, .int (nI k39))]) hx hb dX4_parts_64 rfl hl (by decide) rfl (fun ls hl => ?_)
            refine lv_iinc (v := (nI (k39 + 1))) (lv' := [(4, .int (nI (k39 + 1))), (3, .int (v3_39 + 1)), (0, .ref h), (1, .int x), (2, .int se)]) hx hb dX4_parts_65 hl (k := 4) rfl (nI_1 (k39)) (by decide) rfl (fun ls hl => ?_)
            refine lv_goto (tgt := 39) hx hb dX4_parts_68 (by decide) ?_
            have hR9 : sX4_parts_39 kd pl N x se k39 v3_39 = (v3_39 + 1) := (by unfold sX4_parts_39; rw [if_neg c55])
            exact ih39 (k39 + 1) hlt39 (by omega) _ (lp_next hacc39 hR9)  ls (lv_sub hl [2, 3, 4, 1, 0] rfl)
          refine lv_iconst (v := 0) hx hb dX4_parts_58 (by decide) ?_
          refine lv_goto (tgt := 63) hx hb dX4_parts_59 (by decide) ?_
          refine lv_iadd hx hb dX4_parts_63 ?_
          refine lv_istore_n (lv' := [(3, .int (v3_39 + 0)), (0, .ref h), (1, .int x), (2, .int se), (4, .int (nI k39))]) hx hb dX4_parts_64 rfl hl (by decide) rfl (fun ls hl => ?_)
          refine lv_iinc (v := (nI (k39 + 1))) (lv' := [(4, .int (nI (k39 + 1))), (3, .int (v3_39 + 0)), (0, .ref h), (1, .int x), (2, .int se)]) hx hb dX4_parts_65 hl (k := 4) rfl (nI_1 (k39)) (by decide) rfl (fun ls hl => ?_)
          refine lv_goto (tgt := 39) hx hb dX4_parts_68 (by decide) ?_
          have hR10 : sX4_parts_39 kd pl N x se k39 v3_39 = (v3_39 + 0) := (by unfold sX4_parts_39; rw [if_pos c55])
          exact ih39 (k39 + 1) hlt39 (by omega) _ (lp_next hacc39 hR10)  ls (lv_sub hl [2, 3, 4, 1, 0] rfl)
      exact loop39 (11 + 1) 0 (Nat.zero_le _) (by omega) _ rfl  ls (lv_sub hl [2, 3, 4, 1, 0] rfl)
    refine lv_bipush (v := (-2)) hx hb dX4_parts_18 (by decide) ?_
    have hR11 : (fX4_parts an kd pl N x se) = (-2) := (by unfold fX4_parts; rw [if_neg c5, if_pos c15])
    rw [hQ]
    exact W.iret (v := (-2)) hx hb hr (fun t ht hW => ⟨_, rfl, hR11.symm, ht⟩) (fun q h => by cases h) dX4_parts_20
  refine lv_iconst (v := (-1)) hx hb dX4_parts_8 (by decide) ?_
  have hR12 : (fX4_parts an kd pl N x se) = (-1) := (by unfold fX4_parts; rw [if_pos c5])
  rw [hQ]
  exact W.iret (v := (-1)) hx hb hr (fun t ht hW => ⟨_, rfl, hR12.symm, ht⟩) (fun q h => by cases h) dX4_parts_9

def aX4_months_69 (v3_69 : Int32) : Int32 := (if v3_69 ≤ 99 then v3_69 else (-9))
def sX4_months_69 (gr v2_31 : Int32) (k69 : Nat) (v3_69 : Int32) : (Int32) ⊕ Int32 := (if (v2_31 : Int32) ≤ (gr * v3_69) then (.inr (aX4_months_69  v3_69)) else (.inl (v3_69 + 1)))
def aX4_months_31 (gr v2_31 : Int32) : Int32 := (lqr (lq (fun k a => sX4_months_69 gr v2_31 k a) 0 100) (fun a => aX4_months_69  a))
def sX4_months_31 (wt : Nat → Int32) (se : Int32) (k31 : Nat) (v2_31 : Int32) : (Int32) := (if ((se >>> ((nI k31) &&& 31)) &&& 1) = 1 then (v2_31 + (wt (nI k31).toNatClampNeg)) else (v2_31 + 0))
def fX4_months (an pn gr : Int32) (wt : Nat → Int32) (Pn : Nat) (se : Int32) : Int32 := (if an = 0 then (-3) else (if se < 0 then (-2) else (if se < (1 <<< (pn &&& 31)) then (aX4_months_31 gr (lp (fun k a => sX4_months_31 wt se k a) 0 Pn)) else (-2))))
theorem q_X4_months : yX4_months.cls = RX4 ∧ yX4_months.cls ≠ "java/lang/invoke/MethodHandle" ∧ yX4_months.cls ≠ "java/lang/invoke/VarHandle" ∧ (parseMethodDescriptor yX4_months.desc).map (fun d => d.parameters.length) = some 1 := by decide +kernel
set_option maxHeartbeats 4000000 in
set_option maxRecDepth 100000 in
theorem c_X4_months (l : Launch) (D : va_G) (cI cS : ClassId) (h m1 m2 m3 m4 m5 m6 m7 m8 m9 m10 m11 m12 m13 : Nat) (lf tr an pn gr ax ra rp rg rd : Int32) (so sl ces kd pl wt xk xp xw wo su ask shw : Nat → Int32) (Pn : Nat) (se : Int32) (hpn : pn = nI Pn) (hPn : Pn ≤ 5) : PMi l yX4_months wsX4_months { frames := 0, cells := 0, slots := 0, locals := 0 } D cI cS (wMo cI h m1 m2 m3 m4 m5 m6 m7 m8 m9 m10 m11 m12 m13 lf tr an pn gr ax ra rp rg rd so sl ces kd pl wt xk xp xw wo su ask shw) [.ref h, .int se] (fX4_months an pn gr wt Pn se) := by
  refine kEnter (cc := cX4_months) (maxL := 4) (ret := (some .int)) (by decide) rfl (Nat.le_of_ble_eq_true rfl) ?_
  intro p e s m below meth c ls Qf hQ hx hb hml hr hlocks hown hts hK hP hl
  have hown : s.vm.findClass RX4 = some m.cls := hown
  have hl : lv_has ls 4 [(0, .ref h), (1, .int se)] := hl
  refine lv_aload_n hx hb dX4_months_0 rfl (lv_at hl 0 rfl) ?_
  refine va_get (D := D) (ci := 4) (v := .int an) (C := RX4) (T := TX4) (N := 23) hx hb hts (fun _ h => List.mem_cons_of_mem _ (List.mem_append_right _ h)) hown hK.1 hP 0 rfl rfl 5 (by decide) (hts (.fieldLink RX4 59 "LieNightsModel" "answers" "I") (List.mem_of_getElem? (i := 1) rfl)) (fun _ h9 => h9) rfl dX4_months_1 ?_
  refine lv_if_ne (tgt := 10) hx hb dX4_months_4 (by decide) (fun c4 => ?_) (fun c4 => ?_)
  · skip
    refine lv_iload_n hx hb dX4_months_10 rfl (lv_at hl 1 rfl) ?_
    refine lv_if_lt (tgt := 24) hx hb dX4_months_11 (by decide) (fun c11 => ?_) (fun c11 => ?_)
    · skip
      refine lv_bipush (v := (-2)) hx hb dX4_months_24 (by decide) ?_
      have hR1 : (fX4_months an pn gr wt Pn se) = (-2) := (by unfold fX4_months; rw [if_neg c4, if_pos c11])
      rw [hQ]
      exact W.iret (v := (-2)) hx hb hr (fun t ht hW => ⟨_, rfl, hR1.symm, ht⟩) (fun q h => by cases h) dX4_months_26
    refine lv_iload_n hx hb dX4_months_14 rfl (lv_at hl 1 rfl) ?_
    refine lv_iconst (v := 1) hx hb dX4_months_15 (by decide) ?_
    refine lv_aload_n hx hb dX4_months_16 rfl (lv_at hl 0 rfl) ?_
    refine va_get (D := D) (ci := 4) (v := .int pn) (C := RX4) (T := TX4) (N := 23) hx hb hts (fun _ h => List.mem_cons_of_mem _ (List.mem_append_right _ h)) hown hK.1 hP 0 rfl rfl 6 (by decide) (hts (.fieldLink RX4 95 "LieNightsModel" "pillars" "I") (List.mem_of_getElem? (i := 2) rfl)) (fun _ h9 => h9) rfl dX4_months_17 ?_
    refine lv_ishl hx hb dX4_months_20 ?_
    refine lv_icmp_lt (tgt := 27) hx hb dX4_months_21 (by decide) (fun c21 => ?_) (fun c21 => ?_)
    · skip
      refine lv_iconst (v := 0) hx hb dX4_months_27 (by decide) ?_
      refine lv_istore_n (lv' := [(2, .int 0), (0, .ref h), (1, .int se)]) hx hb dX4_months_28 rfl hl (by decide) rfl (fun ls hl => ?_)
      refine lv_iconst (v := 0) hx hb dX4_months_29 (by decide) ?_
      refine lv_istore_n (lv' := [(3, .int 0), (2, .int 0), (0, .ref h), (1, .int se)]) hx hb dX4_months_30 rfl hl (by decide) rfl (fun ls hl => ?_)
      have hR2 : (fX4_months an pn gr wt Pn se) = (aX4_months_31 gr (lp (fun k a => sX4_months_31 wt se k a) 0 Pn)) := (by unfold fX4_months; rw [if_neg c4, if_neg c11, if_pos c21])
      have loop31 : ∀ (n k31 : Nat), k31 ≤ Pn → Pn + 1 ≤ k31 + n → ∀ (v2_31 : Int32), lp (fun k a => sX4_months_31 wt se k a) 0 k31 = v2_31 →  ∀ (ls : Array Slot), lv_has ls 4 [(0, .ref h), (1, .int se), (2, .int v2_31), (3, .int (nI k31))] → W p l e { frames := 0, cells := 0, slots := 0, locals := 0 } s m ([.ref h, .int se] : List Value).toArray below meth c s.heap [] 0 0 Qf (F0 m 31 ls []) := by
        intro n
        induction n with
        | zero => intro k31 h1 h2; exact absurd h2 (by omega)
        | succ n ih =>
          intro k31 hk31 hn31 v2_31 hacc31  ls hl
          have ih31 := ih
          refine lv_iload_n hx hb dX4_months_31 rfl (lv_at hl 3 rfl) ?_
          refine lv_aload_n hx hb dX4_months_32 rfl (lv_at hl 0 rfl) ?_
          refine va_get (D := D) (ci := 4) (v := .int pn) (C := RX4) (T := TX4) (N := 23) hx hb hts (fun _ h => List.mem_cons_of_mem _ (List.mem_append_right _ h)) hown hK.1 hP 0 rfl rfl 6 (by decide) (hts (.fieldLink RX4 95 "LieNightsModel" "pillars" "I") (List.mem_of_getElem? (i := 2) rfl)) (fun _ h9 => h9) rfl dX4_months_33 ?_
          refine lv_icmp_ge (tgt := 67) hx hb dX4_months_36 (by decide) (fun c36 => ?_) (fun c36 => ?_)
          · skip
            have hkN : k31 = Pn := (kEnd hk31 rfl hpn (by omega) c36)
            rw [hkN] at hacc31
            have hR3 : (fX4_months an pn gr wt Pn se) = aX4_months_31 gr v2_31 := hR2.trans (lp_end (x := v2_31) (g := (fun a => aX4_months_31 gr a)) hacc31)
            refine lv_iconst (v := 0) hx hb dX4_months_67 (by decide) ?_
            refine lv_istore_n (lv' := [(3, .int 0), (0, .ref h), (1, .int se), (2, .int v2_31)]) hx hb dX4_months_68 rfl hl (by decide) rfl (fun ls hl => ?_)
            have hR4 : (fX4_months an pn gr wt Pn se) = (lqr (lq (fun k a => sX4_months_69 gr v2_31 k a) 0 100) (fun a => aX4_months_69  a)) := hR3.trans rfl
            have aft69 : ∀ (v3_69 : Int32), (fX4_months an pn gr wt Pn se) = aX4_months_69  v3_69 →  ∀ (ls : Array Slot), lv_has ls 4 [(0, .ref h), (1, .int se), (2, .int v2_31), (3, .int v3_69)] → W p l e { frames := 0, cells := 0, slots := 0, locals := 0 } s m ([.ref h, .int se] : List Value).toArray below meth c s.heap [] 0 0 Qf (F0 m 91 ls []) := by
              intro v3_69 hRa69  ls hl
              refine lv_iload_n hx hb dX4_months_91 rfl (lv_at hl 3 rfl) ?_
              refine lv_bipush (v := 99) hx hb dX4_months_92 (by decide) ?_
              refine lv_icmp_le (tgt := 102) hx hb dX4_months_94 (by decide) (fun c94 => ?_) (fun c94 => ?_)
              · skip
                refine lv_iload_n hx hb dX4_months_102 rfl (lv_at hl 3 rfl) ?_
                have hR5 : (fX4_months an pn gr wt Pn se) = v3_69 := hRa69.trans (by unfold aX4_months_69; rw [if_pos c94])
                rw [hQ]
                exact W.iret (v := v3_69) hx hb hr (fun t ht hW => ⟨_, rfl, hR5.symm, ht⟩) (fun q h => by cases h) dX4_months_103
              refine lv_bipush (v := (-9)) hx hb dX4_months_97 (by decide) ?_
              refine lv_goto (tgt := 103) hx hb dX4_months_99 (by decide) ?_
              have hR6 : (fX4_months an pn gr wt Pn se) = (-9) := hRa69.trans (by unfold aX4_months_69; rw [if_neg c94])
              rw [hQ]
              exact W.iret (v := (-9)) hx hb hr (fun t ht hW => ⟨_, rfl, hR6.symm, ht⟩) (fun q h => by cases h) dX4_months_103
            have loop69 : ∀ (n k69 : Nat), k69 ≤ 100 → 100 + 1 ≤ k69 + n → ∀ (v3_69 : Int32), lq (fun k a => sX4_months_69 gr v2_31 k a) 0 k69 = Sum.inl v3_69 → (v3_69 = nI k69) → ∀ (ls : Array Slot), lv_has ls 4 [(0, .ref h), (1, .int se), (2, .int v2_31), (3, .int v3_69)] → W p l e { frames := 0, cells := 0, slots := 0, locals := 0 } s m ([.ref h, .int se] : List Value).toArray below meth c s.heap [] 0 0 Qf (F0 m 69 ls []) := by
              intro n
              induction n with
              | zero => intro k69 h1 h2; exact absurd h2 (by omega)
              | succ n ih =>
                intro k69 hk69 hn69 v3_69 hacc69 hv3 ls hl
                have ih69 := ih
                refine lv_iload_n hx hb dX4_months_69 rfl (lv_at hl 3 rfl) ?_
                refine lv_bipush (v := 99) hx hb dX4_months_70 (by decide) ?_
                refine lv_icmp_gt (tgt := 91) hx hb dX4_months_72 (by decide) (fun c72 => ?_) (fun c72 => ?_)
                · skip
                  have hkN : k69 = 100 := (kEndG (N := 99) hk69 hv3 rfl (by omega) c72)
                  rw [hkN] at hacc69
                  have hR7 : (fX4_months an pn gr wt Pn se) = aX4_months_69  v3_69 := hR4.trans (lq_end (x := v3_69) (g := (fun a => aX4_months_69  a)) hacc69)
                  exact aft69 _ hR7  ls (lv_sub hl [0, 1, 2, 3] rfl)
                have hlt69 : k69 < 100 := (kLtG (N := 99) hk69 hv3 rfl (by omega) c72)
                refine lv_aload_n hx hb dX4_months_75 rfl (lv_at hl 0 rfl) ?_
                refine va_get (D := D) (ci := 4) (v := .int gr) (C := RX4) (T := TX4) (N := 23) hx hb hts (fun _ h => List.mem_cons_of_mem _ (List.mem_append_right _ h)) hown hK.1 hP 0 rfl rfl 7 (by decide) (hts (.fieldLink RX4 89 "LieNightsModel" "growth" "I") (List.mem_of_getElem? (i := 4) rfl)) (fun _ h9 => h9) rfl dX4_months_76 ?_
                refine lv_iload_n hx hb dX4_months_79 rfl (lv_at hl 3 rfl) ?_
                refine lv_imul hx hb dX4_months_80 ?_
                refine lv_iload_n hx hb dX4_months_81 rfl (lv_at hl 2 rfl) ?_
                refine lv_icmp_ge (tgt := 91) hx hb dX4_months_82 (by decide) (fun c82 => ?_) (fun c82 => ?_)
                · skip
                  have hR8 : sX4_months_69 gr v2_31 k69 v3_69 = (.inr (aX4_months_69  v3_69)) := (by unfold sX4_months_69; rw [if_pos c82])
                  have hR9 : (fX4_months an pn gr wt Pn se) = aX4_months_69  v3_69 := hR4.trans (lq_exit hacc69 hR8 hlt69)
                  exact aft69 _ hR9  ls (lv_sub hl [0, 1, 2, 3] rfl)
                refine lv_iinc (v := (v3_69 + 1)) (lv' := [(3, .int (v3_69 + 1)), (0, .ref h), (1, .int se), (2, .int v2_31)]) hx hb dX4_months_85 hl (k := 3) rfl rfl (by decide) rfl (fun ls hl => ?_)
                refine lv_goto (tgt := 69) hx hb dX4_months_88 (by decide) ?_
                have hR10 : sX4_months_69 gr v2_31 k69 v3_69 = (.inl (v3_69 + 1)) := (by unfold sX4_months_69; rw [if_neg c82])
                exact ih69 (k69 + 1) hlt69 (by omega) _ (lq_next hacc69 hR10) (by rw [hv3]; exact nI_1 k69) ls (lv_sub hl [1, 2, 3, 0] rfl)
            exact loop69 (100 + 1) 0 (Nat.zero_le _) (by omega) _ rfl rfl ls (lv_sub hl [1, 2, 3, 0] rfl)
          have hlt31 : k31 < Pn := (kLt hk31 rfl hpn c36)
          refine lv_iload_n hx hb dX4_months_39 rfl (lv_at hl 2 rfl) ?_
          refine lv_iload_n hx hb dX4_months_40 rfl (lv_at hl 1 rfl) ?_
          refine lv_iload_n hx hb dX4_months_41 rfl (lv_at hl 3 rfl) ?_
          refine lv_ishr hx hb dX4_months_42 ?_
          refine lv_iconst (v := 1) hx hb dX4_months_43 (by decide) ?_
          refine lv_iand hx hb dX4_months_44 ?_
          refine lv_iconst (v := 1) hx hb dX4_months_45 (by decide) ?_
          refine lv_icmp_ne (tgt := 58) hx hb dX4_months_46 (by decide) (fun c46 => ?_) (fun c46 => ?_)
          · skip
            refine lv_iconst (v := 0) hx hb dX4_months_58 (by decide) ?_
            refine lv_iadd hx hb dX4_months_59 ?_
            refine lv_istore_n (lv' := [(2, .int (v2_31 + 0)), (0, .ref h), (1, .int se), (3, .int (nI k31))]) hx hb dX4_months_60 rfl hl (by decide) rfl (fun ls hl => ?_)
            refine lv_iinc (v := (nI (k31 + 1))) (lv' := [(3, .int (nI (k31 + 1))), (2, .int (v2_31 + 0)), (0, .ref h), (1, .int se)]) hx hb dX4_months_61 hl (k := 3) rfl (nI_1 (k31)) (by decide) rfl (fun ls hl => ?_)
            refine lv_goto (tgt := 31) hx hb dX4_months_64 (by decide) ?_
            have hR11 : sX4_months_31 wt se k31 v2_31 = (v2_31 + 0) := (by unfold sX4_months_31; rw [if_neg c46])
            exact ih31 (k31 + 1) hlt31 (by omega) _ (lp_next hacc31 hR11)  ls (lv_sub hl [2, 3, 1, 0] rfl)
          refine lv_aload_n hx hb dX4_months_49 rfl (lv_at hl 0 rfl) ?_
          refine va_get (D := D) (ci := 4) (v := .ref m6) (C := RX4) (T := TX4) (N := 23) hx hb hts (fun _ h => List.mem_cons_of_mem _ (List.mem_append_right _ h)) hown hK.1 hP 0 rfl rfl 10 (by decide) (hts (.fieldLink RX4 25 "LieNightsModel" "weight" "[I") (List.mem_of_getElem? (i := 3) rfl)) (fun _ h9 => h9) rfl dX4_months_50 ?_
          refine lv_iload_n hx hb dX4_months_53 rfl (lv_at hl 3 rfl) ?_
          refine va_iald hx hb hK.1 hP 6 0 rfl rfl (vp_in_nI (by omega) (by decide)) dX4_months_54 ?_
          refine lv_goto (tgt := 59) hx hb dX4_months_55 (by decide) ?_
          refine lv_iadd hx hb dX4_months_59 ?_
          refine lv_istore_n (lv' := [(2, .int (v2_31 + (wt (nI k31).toNatClampNeg))), (0, .ref h), (1, .int se), (3, .int (nI k31))]) hx hb dX4_months_60 rfl hl (by decide) rfl (fun ls hl => ?_)
          refine lv_iinc (v := (nI (k31 + 1))) (lv' := [(3, .int (nI (k31 + 1))), (2, .int (v2_31 + (wt (nI k31).toNatClampNeg))), (0, .ref h), (1, .int se)]) hx hb dX4_months_61 hl (k := 3) rfl (nI_1 (k31)) (by decide) rfl (fun ls hl => ?_)
          refine lv_goto (tgt := 31) hx hb dX4_months_64 (by decide) ?_
          have hR12 : sX4_months_31 wt se k31 v2_31 = (v2_31 + (wt (nI k31).toNatClampNeg)) := (by unfold sX4_months_31; rw [if_pos c46])
          exact ih31 (k31 + 1) hlt31 (by omega) _ (lp_next hacc31 hR12)  ls (lv_sub hl [2, 3, 1, 0] rfl)
      exact loop31 (Pn + 1) 0 (Nat.zero_le _) (by omega) _ rfl  ls (lv_sub hl [2, 3, 1, 0] rfl)
    refine lv_bipush (v := (-2)) hx hb dX4_months_24 (by decide) ?_
    have hR13 : (fX4_months an pn gr wt Pn se) = (-2) := (by unfold fX4_months; rw [if_neg c4, if_neg c11, if_neg c21])
    rw [hQ]
    exact W.iret (v := (-2)) hx hb hr (fun t ht hW => ⟨_, rfl, hR13.symm, ht⟩) (fun q h => by cases h) dX4_months_26
  refine lv_bipush (v := (-3)) hx hb dX4_months_7 (by decide) ?_
  have hR14 : (fX4_months an pn gr wt Pn se) = (-3) := (by unfold fX4_months; rw [if_pos c4])
  rw [hQ]
  exact W.iret (v := (-3)) hx hb hr (fun t ht hW => ⟨_, rfl, hR14.symm, ht⟩) (fun q h => by cases h) dX4_months_9

def aX4_down_31 (v2_31 v3_31 : Int32) : Int32 := v2_31
def aX4_down_46 (v2_46 v3_46 : Int32) : (Int32 × Int32) := (v2_46, v3_46)
def sX4_down_46 (gr : Int32) (wt : Nat → Int32) (mo : Int32) (k31 k46 : Nat) (v2_46 v3_46 : Int32) : (Int32 × Int32) := (if ((gr * mo) : Int32) < ((wt (nI k31).toNatClampNeg) + (wt (nI (k31 + 1 + k46)).toNatClampNeg)) then (v2_46, v3_46) else (if ((wt (nI k31).toNatClampNeg) + (wt (nI (k31 + 1 + k46)).toNatClampNeg)) ≤ v3_46 then (v2_46, v3_46) else (((10 * (nI k31)) + (nI (k31 + 1 + k46))), ((wt (nI k31).toNatClampNeg) + (wt (nI (k31 + 1 + k46)).toNatClampNeg)))))
def sX4_down_31 (gr : Int32) (wt : Nat → Int32) (Pn : Nat) (mo : Int32) (k31 : Nat) (v2_31 v3_31 : Int32) : (Int32 × Int32) := (aX4_down_46  ((lp (fun k a => sX4_down_46 gr wt mo k31 k a.1 a.2) (v2_31, v3_31) (Pn - (k31 + 1))).1) ((lp (fun k a => sX4_down_46 gr wt mo k31 k a.1 a.2) (v2_31, v3_31) (Pn - (k31 + 1))).2))
def fX4_down (an gr : Int32) (wt : Nat → Int32) (Pn : Nat) (mo : Int32) : Int32 := (if an = 0 then (-3) else (if (fX4_within mo 0 99) = 0 then (-2) else (aX4_down_31  ((lp (fun k a => sX4_down_31 gr wt Pn mo k a.1 a.2) ((-9), 0) Pn).1) ((lp (fun k a => sX4_down_31 gr wt Pn mo k a.1 a.2) ((-9), 0) Pn).2))))
theorem q_X4_down : yX4_down.cls = RX4 ∧ yX4_down.cls ≠ "java/lang/invoke/MethodHandle" ∧ yX4_down.cls ≠ "java/lang/invoke/VarHandle" ∧ (parseMethodDescriptor yX4_down.desc).map (fun d => d.parameters.length) = some 1 := by decide +kernel
set_option maxHeartbeats 4000000 in
set_option maxRecDepth 100000 in
theorem c_X4_down (l : Launch) (D : va_G) (cI cS : ClassId) (h m1 m2 m3 m4 m5 m6 m7 m8 m9 m10 m11 m12 m13 : Nat) (lf tr an pn gr ax ra rp rg rd : Int32) (so sl ces kd pl wt xk xp xw wo su ask shw : Nat → Int32) (Pn : Nat) (mo : Int32) (hpn : pn = nI Pn) (hPn : Pn ≤ 5) : PMi l yX4_down wsX4_down { frames := 1, cells := 0, slots := 0, locals := 22 } D cI cS (wMo cI h m1 m2 m3 m4 m5 m6 m7 m8 m9 m10 m11 m12 m13 lf tr an pn gr ax ra rp rg rd so sl ces kd pl wt xk xp xw wo su ask shw) [.ref h, .int mo] (fX4_down an gr wt Pn mo) := by
  refine kEnter (cc := cX4_down) (maxL := 7) (ret := (some .int)) (by decide) rfl (Nat.le_of_ble_eq_true rfl) ?_
  intro p e s m below meth c ls Qf hQ hx hb hml hr hlocks hown hts hK hP hl
  have hown : s.vm.findClass RX4 = some m.cls := hown
  have hl : lv_has ls 7 [(0, .ref h), (1, .int mo)] := hl
  refine lv_aload_n hx hb dX4_down_0 rfl (lv_at hl 0 rfl) ?_
  refine va_get (D := D) (ci := 4) (v := .int an) (C := RX4) (T := TX4) (N := 23) hx hb hts (fun _ h => List.mem_cons_of_mem _ (List.mem_append_right _ h)) hown hK.1 hP 0 rfl rfl 5 (by decide) (hts (.fieldLink RX4 59 "LieNightsModel" "answers" "I") (List.mem_of_getElem? (i := 1) rfl)) (fun _ h9 => h9) rfl dX4_down_1 ?_
  refine lv_if_ne (tgt := 10) hx hb dX4_down_4 (by decide) (fun c4 => ?_) (fun c4 => ?_)
  · skip
    refine lv_iload_n hx hb dX4_down_10 rfl (lv_at hl 1 rfl) ?_
    refine lv_iconst (v := 0) hx hb dX4_down_11 (by decide) ?_
    refine lv_bipush (v := 99) hx hb dX4_down_12 (by decide) ?_
    refine kPi (va_runS (As := [.int mo, .int 0, .int 99]) (rest := []) ⟨hx, hb, hml, hown, hts⟩ (c_X4_within l D cI cS mo 0 99) (va_cwS 3 hts gX4_down_X4_within rfl rfl rfl q_X4_within.2 ⟨Nat.le_of_ble_eq_true rfl, Nat.le_of_ble_eq_true rfl⟩) (kPS hK hP [] rfl [.int mo, .int 0, .int 99]) rfl rfl hl.1 rfl (lv_room (Nat.le_of_ble_eq_true rfl)) dX4_down_14 ⟨Nat.zero_le _, Nat.zero_le _⟩) ?_
    refine lv_if_ne (tgt := 23) hx hb dX4_down_17 (by decide) (fun c17 => ?_) (fun c17 => ?_)
    · skip
      refine lv_bipush (v := (-9)) hx hb dX4_down_23 (by decide) ?_
      refine lv_istore_n (lv' := [(2, .int (-9)), (0, .ref h), (1, .int mo)]) hx hb dX4_down_25 rfl hl (by decide) rfl (fun ls hl => ?_)
      refine lv_iconst (v := 0) hx hb dX4_down_26 (by decide) ?_
      refine lv_istore_n (lv' := [(3, .int 0), (2, .int (-9)), (0, .ref h), (1, .int mo)]) hx hb dX4_down_27 rfl hl (by decide) rfl (fun ls hl => ?_)
      refine lv_iconst (v := 0) hx hb dX4_down_28 (by decide) ?_
      refine lv_istore (lv' := [(4, .int 0), (3, .int 0), (2, .int (-9)), (0, .ref h), (1, .int mo)]) hx hb dX4_down_29 hl (by decide) rfl (fun ls hl => ?_)
      have hR1 : (fX4_down an gr wt Pn mo) = (aX4_down_31  ((lp (fun k a => sX4_down_31 gr wt Pn mo k a.1 a.2) ((-9), 0) Pn).1) ((lp (fun k a => sX4_down_31 gr wt Pn mo k a.1 a.2) ((-9), 0) Pn).2)) := (by unfold fX4_down; rw [if_neg c4, if_neg c17])
      have loop31 : ∀ (n k31 : Nat), k31 ≤ Pn → Pn + 1 ≤ k31 + n → ∀ (v2_31 : Int32) (v3_31 : Int32), lp (fun k a => sX4_down_31 gr wt Pn mo k a.1 a.2) ((-9), 0) k31 = (v2_31, v3_31) →  ∀ (ls : Array Slot), lv_has ls 7 [(0, .ref h), (1, .int mo), (2, .int v2_31), (3, .int v3_31), (4, .int (nI k31))] → W p l e { frames := 1, cells := 0, slots := 0, locals := 22 } s m ([.ref h, .int mo] : List Value).toArray below meth c s.heap [] 0 0 Qf (F0 m 31 ls []) := by
        intro n
        induction n with
        | zero => intro k31 h1 h2; exact absurd h2 (by omega)
        | succ n ih =>
          intro k31 hk31 hn31 v2_31 v3_31 hacc31  ls hl
          have ih31 := ih
          refine lv_iload hx hb dX4_down_31 (lv_at hl 4 rfl) ?_
          refine lv_aload_n hx hb dX4_down_33 rfl (lv_at hl 0 rfl) ?_
          refine va_get (D := D) (ci := 4) (v := .int pn) (C := RX4) (T := TX4) (N := 23) hx hb hts (fun _ h => List.mem_cons_of_mem _ (List.mem_append_right _ h)) hown hK.1 hP 0 rfl rfl 6 (by decide) (hts (.fieldLink RX4 95 "LieNightsModel" "pillars" "I") (List.mem_of_getElem? (i := 2) rfl)) (fun _ h9 => h9) rfl dX4_down_34 ?_
          refine lv_icmp_ge (tgt := 113) hx hb dX4_down_37 (by decide) (fun c37 => ?_) (fun c37 => ?_)
          · skip
            have hkN : k31 = Pn := (kEnd hk31 rfl hpn (by omega) c37)
            rw [hkN] at hacc31
            have hR2 : (fX4_down an gr wt Pn mo) = aX4_down_31  v2_31 v3_31 := hR1.trans (lp_end (x := (v2_31, v3_31)) (g := (fun a => aX4_down_31  a.1 a.2)) hacc31)
            refine lv_iload_n hx hb dX4_down_113 rfl (lv_at hl 2 rfl) ?_
            have hR3 : (fX4_down an gr wt Pn mo) = v2_31 := hR2.trans rfl
            rw [hQ]
            exact W.iret (v := v2_31) hx hb hr (fun t ht hW => ⟨_, rfl, hR3.symm, ht⟩) (fun q h => by cases h) dX4_down_114
          have hlt31 : k31 < Pn := (kLt hk31 rfl hpn c37)
          refine lv_iload hx hb dX4_down_40 (lv_at hl 4 rfl) ?_
          refine lv_iconst (v := 1) hx hb dX4_down_42 (by decide) ?_
          refine lv_iadd hx hb dX4_down_43 ?_
          refine lv_istore (lv' := [(5, .int ((nI k31) + 1)), (0, .ref h), (1, .int mo), (2, .int v2_31), (3, .int v3_31), (4, .int (nI k31))]) hx hb dX4_down_44 hl (by decide) rfl (fun ls hl => ?_)
          have hR4 : sX4_down_31 gr wt Pn mo k31 v2_31 v3_31 = (aX4_down_46  ((lp (fun k a => sX4_down_46 gr wt mo k31 k a.1 a.2) (v2_31, v3_31) (Pn - (k31 + 1))).1) ((lp (fun k a => sX4_down_46 gr wt mo k31 k a.1 a.2) (v2_31, v3_31) (Pn - (k31 + 1))).2)) := rfl
          have loop46 : ∀ (n k46 : Nat), k46 ≤ (Pn - (k31 + 1)) → (Pn - (k31 + 1)) + 1 ≤ k46 + n → ∀ (v2_46 : Int32) (v3_46 : Int32), lp (fun k a => sX4_down_46 gr wt mo k31 k a.1 a.2) (v2_31, v3_31) k46 = (v2_46, v3_46) →  ∀ (ls : Array Slot), lv_has ls 7 [(0, .ref h), (1, .int mo), (2, .int v2_46), (3, .int v3_46), (4, .int (nI k31)), (5, .int (nI (k31 + 1 + k46)))] → W p l e { frames := 1, cells := 0, slots := 0, locals := 22 } s m ([.ref h, .int mo] : List Value).toArray below meth c s.heap [] 0 0 Qf (F0 m 46 ls []) := by
            intro n
            induction n with
            | zero => intro k46 h1 h2; exact absurd h2 (by omega)
            | succ n ih =>
              intro k46 hk46 hn46 v2_46 v3_46 hacc46  ls hl
              have ih46 := ih
              refine lv_iload hx hb dX4_down_46 (lv_at hl 5 rfl) ?_
              refine lv_aload_n hx hb dX4_down_48 rfl (lv_at hl 0 rfl) ?_
              refine va_get (D := D) (ci := 4) (v := .int pn) (C := RX4) (T := TX4) (N := 23) hx hb hts (fun _ h => List.mem_cons_of_mem _ (List.mem_append_right _ h)) hown hK.1 hP 0 rfl rfl 6 (by decide) (hts (.fieldLink RX4 95 "LieNightsModel" "pillars" "I") (List.mem_of_getElem? (i := 2) rfl)) (fun _ h9 => h9) rfl dX4_down_49 ?_
              refine lv_icmp_ge (tgt := 107) hx hb dX4_down_52 (by decide) (fun c52 => ?_) (fun c52 => ?_)
              · skip
                have hkN : k46 = (Pn - (k31 + 1)) := (kEndO hk46 (by omega) (by omega) rfl hpn c52)
                rw [hkN] at hacc46
                have hR5 : sX4_down_31 gr wt Pn mo k31 v2_31 v3_31 = aX4_down_46  v2_46 v3_46 := hR4.trans (lp_end (x := (v2_46, v3_46)) (g := (fun a => aX4_down_46  a.1 a.2)) hacc46)
                refine lv_iinc (v := (nI (k31 + 1))) (lv' := [(4, .int (nI (k31 + 1))), (0, .ref h), (1, .int mo), (2, .int v2_46), (3, .int v3_46), (5, .int (nI (k31 + 1 + k46)))]) hx hb dX4_down_107 hl (k := 4) rfl (nI_1 (k31)) (by decide) rfl (fun ls hl => ?_)
                refine lv_goto (tgt := 31) hx hb dX4_down_110 (by decide) ?_
                have hR6 : sX4_down_31 gr wt Pn mo k31 v2_31 v3_31 = (v2_46, v3_46) := hR5.trans rfl
                exact ih31 (k31 + 1) hlt31 (by omega) _ _ (lp_next hacc31 hR6)  ls (lv_sub hl [1, 2, 3, 4, 0] rfl)
              have hlt46 : k46 < (Pn - (k31 + 1)) := (kLtO hk46 (by omega) rfl hpn c52)
              refine lv_aload_n hx hb dX4_down_55 rfl (lv_at hl 0 rfl) ?_
              refine va_get (D := D) (ci := 4) (v := .ref m6) (C := RX4) (T := TX4) (N := 23) hx hb hts (fun _ h => List.mem_cons_of_mem _ (List.mem_append_right _ h)) hown hK.1 hP 0 rfl rfl 10 (by decide) (hts (.fieldLink RX4 25 "LieNightsModel" "weight" "[I") (List.mem_of_getElem? (i := 3) rfl)) (fun _ h9 => h9) rfl dX4_down_56 ?_
              refine lv_iload hx hb dX4_down_59 (lv_at hl 4 rfl) ?_
              refine va_iald hx hb hK.1 hP 6 0 rfl rfl (vp_in_nI (by omega) (by decide)) dX4_down_61 ?_
              refine lv_aload_n hx hb dX4_down_62 rfl (lv_at hl 0 rfl) ?_
              refine va_get (D := D) (ci := 4) (v := .ref m6) (C := RX4) (T := TX4) (N := 23) hx hb hts (fun _ h => List.mem_cons_of_mem _ (List.mem_append_right _ h)) hown hK.1 hP 0 rfl rfl 10 (by decide) (hts (.fieldLink RX4 25 "LieNightsModel" "weight" "[I") (List.mem_of_getElem? (i := 3) rfl)) (fun _ h9 => h9) rfl dX4_down_63 ?_
              refine lv_iload hx hb dX4_down_66 (lv_at hl 5 rfl) ?_
              refine va_iald hx hb hK.1 hP 6 0 rfl rfl (vp_in_nI (by omega) (by decide)) dX4_down_68 ?_
              refine lv_iadd hx hb dX4_down_69 ?_
              refine lv_istore (lv' := [(6, .int ((wt (nI k31).toNatClampNeg) + (wt (nI (k31 + 1 + k46)).toNatClampNeg))), (0, .ref h), (1, .int mo), (2, .int v2_46), (3, .int v3_46), (4, .int (nI k31)), (5, .int (nI (k31 + 1 + k46)))]) hx hb dX4_down_70 hl (by decide) rfl (fun ls hl => ?_)
              refine lv_iload hx hb dX4_down_72 (lv_at hl 0 rfl) ?_
              refine lv_aload_n hx hb dX4_down_74 rfl (lv_at hl 1 rfl) ?_
              refine va_get (D := D) (ci := 4) (v := .int gr) (C := RX4) (T := TX4) (N := 23) hx hb hts (fun _ h => List.mem_cons_of_mem _ (List.mem_append_right _ h)) hown hK.1 hP 0 rfl rfl 7 (by decide) (hts (.fieldLink RX4 89 "LieNightsModel" "growth" "I") (List.mem_of_getElem? (i := 4) rfl)) (fun _ h9 => h9) rfl dX4_down_75 ?_
              refine lv_iload_n hx hb dX4_down_78 rfl (lv_at hl 2 rfl) ?_
              refine lv_imul hx hb dX4_down_79 ?_
              refine lv_icmp_gt (tgt := 101) hx hb dX4_down_80 (by decide) (fun c80 => ?_) (fun c80 => ?_)
              · skip
                refine lv_iinc (v := (nI ((k31 + 1 + k46) + 1))) (lv' := [(5, .int (nI ((k31 + 1 + k46) + 1))), (6, .int ((wt (nI k31).toNatClampNeg) + (wt (nI (k31 + 1 + k46)).toNatClampNeg))), (0, .ref h), (1, .int mo), (2, .int v2_46), (3, .int v3_46), (4, .int (nI k31))]) hx hb dX4_down_101 hl (k := 6) rfl (nI_1 ((k31 + 1 + k46))) (by decide) rfl (fun ls hl => ?_)
                refine lv_goto (tgt := 46) hx hb dX4_down_104 (by decide) ?_
                have hR7 : sX4_down_46 gr wt mo k31 k46 v2_46 v3_46 = (v2_46, v3_46) := (by unfold sX4_down_46; rw [if_pos c80])
                exact ih46 (k46 + 1) hlt46 (by omega) _ _ (lp_next hacc46 hR7)  ls (lv_sub hl [2, 3, 4, 5, 6, 0] rfl)
              refine lv_iload hx hb dX4_down_83 (lv_at hl 0 rfl) ?_
              refine lv_iload_n hx hb dX4_down_85 rfl (lv_at hl 4 rfl) ?_
              refine lv_icmp_le (tgt := 101) hx hb dX4_down_86 (by decide) (fun c86 => ?_) (fun c86 => ?_)
              · skip
                refine lv_iinc (v := (nI ((k31 + 1 + k46) + 1))) (lv' := [(5, .int (nI ((k31 + 1 + k46) + 1))), (6, .int ((wt (nI k31).toNatClampNeg) + (wt (nI (k31 + 1 + k46)).toNatClampNeg))), (0, .ref h), (1, .int mo), (2, .int v2_46), (3, .int v3_46), (4, .int (nI k31))]) hx hb dX4_down_101 hl (k := 6) rfl (nI_1 ((k31 + 1 + k46))) (by decide) rfl (fun ls hl => ?_)
                refine lv_goto (tgt := 46) hx hb dX4_down_104 (by decide) ?_
                have hR8 : sX4_down_46 gr wt mo k31 k46 v2_46 v3_46 = (v2_46, v3_46) := (by unfold sX4_down_46; rw [if_neg c80, if_pos c86])
                exact ih46 (k46 + 1) hlt46 (by omega) _ _ (lp_next hacc46 hR8)  ls (lv_sub hl [2, 3, 4, 5, 6, 0] rfl)
              refine lv_bipush (v := 10) hx hb dX4_down_89 (by decide) ?_
              refine lv_iload hx hb dX4_down_91 (lv_at hl 5 rfl) ?_
              refine lv_imul hx hb dX4_down_93 ?_
              refine lv_iload hx hb dX4_down_94 (lv_at hl 6 rfl) ?_
              refine lv_iadd hx hb dX4_down_96 ?_
              refine lv_istore_n (lv' := [(2, .int ((10 * (nI k31)) + (nI (k31 + 1 + k46)))), (6, .int ((wt (nI k31).toNatClampNeg) + (wt (nI (k31 + 1 + k46)).toNatClampNeg))), (0, .ref h), (1, .int mo), (3, .int v3_46), (4, .int (nI k31)), (5, .int (nI (k31 + 1 + k46)))]) hx hb dX4_down_97 rfl hl (by decide) rfl (fun ls hl => ?_)
              refine lv_iload hx hb dX4_down_98 (lv_at hl 1 rfl) ?_
              refine lv_istore_n (lv' := [(3, .int ((wt (nI k31).toNatClampNeg) + (wt (nI (k31 + 1 + k46)).toNatClampNeg))), (2, .int ((10 * (nI k31)) + (nI (k31 + 1 + k46)))), (6, .int ((wt (nI k31).toNatClampNeg) + (wt (nI (k31 + 1 + k46)).toNatClampNeg))), (0, .ref h), (1, .int mo), (4, .int (nI k31)), (5, .int (nI (k31 + 1 + k46)))]) hx hb dX4_down_100 rfl hl (by decide) rfl (fun ls hl => ?_)
              refine lv_iinc (v := (nI ((k31 + 1 + k46) + 1))) (lv' := [(5, .int (nI ((k31 + 1 + k46) + 1))), (3, .int ((wt (nI k31).toNatClampNeg) + (wt (nI (k31 + 1 + k46)).toNatClampNeg))), (2, .int ((10 * (nI k31)) + (nI (k31 + 1 + k46)))), (6, .int ((wt (nI k31).toNatClampNeg) + (wt (nI (k31 + 1 + k46)).toNatClampNeg))), (0, .ref h), (1, .int mo), (4, .int (nI k31))]) hx hb dX4_down_101 hl (k := 6) rfl (nI_1 ((k31 + 1 + k46))) (by decide) rfl (fun ls hl => ?_)
              refine lv_goto (tgt := 46) hx hb dX4_down_104 (by decide) ?_
              have hR9 : sX4_down_46 gr wt mo k31 k46 v2_46 v3_46 = (((10 * (nI k31)) + (nI (k31 + 1 + k46))), ((wt (nI k31).toNatClampNeg) + (wt (nI (k31 + 1 + k46)).toNatClampNeg))) := (by unfold sX4_down_46; rw [if_neg c80, if_neg c86])
              exact ih46 (k46 + 1) hlt46 (by omega) _ _ (lp_next hacc46 hR9)  ls (lv_sub hl [4, 5, 2, 1, 6, 0] rfl)
          exact loop46 ((Pn - (k31 + 1)) + 1) 0 (Nat.zero_le _) (by omega) _ _ rfl  ls (lv_sub hl [1, 2, 3, 4, 5, 0] (by rw [nI_1]; rfl))
      exact loop31 (Pn + 1) 0 (Nat.zero_le _) (by omega) _ _ rfl  ls (lv_sub hl [3, 4, 2, 1, 0] rfl)
    refine lv_bipush (v := (-2)) hx hb dX4_down_20 (by decide) ?_
    have hR10 : (fX4_down an gr wt Pn mo) = (-2) := (by unfold fX4_down; rw [if_neg c4, if_pos c17])
    rw [hQ]
    exact W.iret (v := (-2)) hx hb hr (fun t ht hW => ⟨_, rfl, hR10.symm, ht⟩) (fun q h => by cases h) dX4_down_22
  refine lv_bipush (v := (-3)) hx hb dX4_down_7 (by decide) ?_
  have hR11 : (fX4_down an gr wt Pn mo) = (-3) := (by unfold fX4_down; rw [if_pos c4])
  rw [hQ]
  exact W.iret (v := (-3)) hx hb hr (fun t ht hW => ⟨_, rfl, hR11.symm, ht⟩) (fun q h => by cases h) dX4_down_9

def fX4_reading (an rd : Int32) (ask shw : Nat → Int32) (x v : Int32) : Int32 × Int32 × (Nat → Int32) × (Nat → Int32) := (if (fX4_isAnswer an x) = 0 then ((-1), rd, ask, shw) else (if v = (-9) then (if rd = 8 then ((-4), rd, ask, shw) else (((rd + 1) - 1), (rd + 1), (upd ask rd.toNatClampNeg x), (upd shw rd.toNatClampNeg v))) else (if (fX4_within v 0 10) = 0 then ((-2), rd, ask, shw) else (if rd = 8 then ((-4), rd, ask, shw) else (((rd + 1) - 1), (rd + 1), (upd ask rd.toNatClampNeg x), (upd shw rd.toNatClampNeg v))))))
theorem q_X4_reading : yX4_reading.cls = RX4 ∧ yX4_reading.cls ≠ "java/lang/invoke/MethodHandle" ∧ yX4_reading.cls ≠ "java/lang/invoke/VarHandle" ∧ (parseMethodDescriptor yX4_reading.desc).map (fun d => d.parameters.length) = some 2 := by decide +kernel
set_option maxHeartbeats 4000000 in
set_option maxRecDepth 100000 in
theorem c_X4_reading (l : Launch) (D : va_G) (cI cS : ClassId) (h m1 m2 m3 m4 m5 m6 m7 m8 m9 m10 m11 m12 m13 : Nat) (lf tr an pn gr ax ra rp rg rd : Int32) (so sl ces kd pl wt xk xp xw wo su ask shw : Nat → Int32) (Rn : Nat) (x v : Int32) (hrd : rd = nI Rn) (hRn : Rn ≤ 8) : MMi l yX4_reading wsX4_reading { frames := 1, cells := 0, slots := 0, locals := 22 } D cI cS (wMo cI h m1 m2 m3 m4 m5 m6 m7 m8 m9 m10 m11 m12 m13 lf tr an pn gr ax ra rp rg rd so sl ces kd pl wt xk xp xw wo su ask shw) [.ref h, .int x, .int v] ((fX4_reading an rd ask shw x v).1) (wMo cI h m1 m2 m3 m4 m5 m6 m7 m8 m9 m10 m11 m12 m13 lf tr an pn gr ax ra rp rg ((fX4_reading an rd ask shw x v).2.1) so sl ces kd pl wt xk xp xw wo su ((fX4_reading an rd ask shw x v).2.2.1) ((fX4_reading an rd ask shw x v).2.2.2)) := by
  refine kEnterM (cc := cX4_reading) (maxL := 3) (ret := (some .int)) (by decide) rfl (Nat.le_of_ble_eq_true rfl) ?_
  intro p e s m below meth c ls Qf hQ hx hb hml hr hlocks hown hts hK hP hD hS hl
  have hown : s.vm.findClass RX4 = some m.cls := hown
  have hl : lv_has ls 3 [(0, .ref h), (1, .int x), (2, .int v)] := hl
  generalize kA (wMo cI h m1 m2 m3 m4 m5 m6 m7 m8 m9 m10 m11 m12 m13 lf tr an pn gr ax ra rp rg rd so sl ces kd pl wt xk xp xw wo su ask shw) = A at hQ hD hS
  refine lv_aload_n hx hb dX4_reading_0 rfl (lv_at hl 0 rfl) ?_
  refine lv_iload_n hx hb dX4_reading_1 rfl (lv_at hl 1 rfl) ?_
  refine kPi (va_runV (As := [.int x]) (rest := []) ⟨hx, hb, hml, hown, hts⟩ (c_X4_isAnswer l D cI cS h m1 m2 m3 m4 m5 m6 m7 m8 m9 m10 m11 m12 m13 lf tr an pn gr ax ra rp rg rd so sl ces kd pl wt xk xp xw wo su ask shw x) (cwV 1 hts gX4_reading_X4_isAnswer rfl rfl rfl q_X4_isAnswer ⟨Nat.le_of_ble_eq_true rfl, Nat.le_of_ble_eq_true rfl⟩) (kPV hK hP [0, 1, 2, 3, 4, 5, 6, 7, 8, 9, 10, 11, 12, 13] rfl (va_recv hK.1 hP (ci := 4) (q0 := 0) rfl rfl) [.int x]) rfl rfl hl.1 rfl (lv_room (Nat.le_of_ble_eq_true rfl)) dX4_reading_2 ⟨Nat.zero_le _, Nat.zero_le _⟩) ?_
  refine lv_if_ne (tgt := 10) hx hb dX4_reading_5 (by decide) (fun c5 => ?_) (fun c5 => ?_)
  · skip
    refine lv_iload_n hx hb dX4_reading_10 rfl (lv_at hl 2 rfl) ?_
    refine lv_bipush (v := (-9)) hx hb dX4_reading_11 (by decide) ?_
    refine lv_icmp_eq (tgt := 29) hx hb dX4_reading_13 (by decide) (fun c13 => ?_) (fun c13 => ?_)
    · skip
      refine lv_aload_n hx hb dX4_reading_29 rfl (lv_at hl 0 rfl) ?_
      refine va_get (D := D) (ci := 4) (v := .int rd) (C := RX4) (T := TX4) (N := 23) hx hb hts (fun _ h => List.mem_cons_of_mem _ (List.mem_append_right _ h)) hown hK.1 hP 0 rfl rfl 20 (by decide) (hts (.fieldLink RX4 98 "LieNightsModel" "readings" "I") (List.mem_of_getElem? (i := 1) rfl)) (fun _ h9 => h9) rfl dX4_reading_30 ?_
      refine lv_bipush (v := 8) hx hb dX4_reading_33 (by decide) ?_
      refine lv_icmp_ne (tgt := 41) hx hb dX4_reading_35 (by decide) (fun c35 => ?_) (fun c35 => ?_)
      · skip
        refine lv_aload_n hx hb dX4_reading_41 rfl (lv_at hl 0 rfl) ?_
        refine va_get (D := D) (ci := 4) (v := .ref m12) (C := RX4) (T := TX4) (N := 23) hx hb hts (fun _ h => List.mem_cons_of_mem _ (List.mem_append_right _ h)) hown hK.1 hP 0 rfl rfl 21 (by decide) (hts (.fieldLink RX4 43 "LieNightsModel" "readAnswerOf" "[I") (List.mem_of_getElem? (i := 2) rfl)) (fun _ h9 => h9) rfl dX4_reading_42 ?_
        refine lv_aload_n hx hb dX4_reading_45 rfl (lv_at hl 0 rfl) ?_
        refine va_get (D := D) (ci := 4) (v := .int rd) (C := RX4) (T := TX4) (N := 23) hx hb hts (fun _ h => List.mem_cons_of_mem _ (List.mem_append_right _ h)) hown hK.1 hP 0 rfl rfl 20 (by decide) (hts (.fieldLink RX4 98 "LieNightsModel" "readings" "I") (List.mem_of_getElem? (i := 1) rfl)) (fun _ h9 => h9) rfl dX4_reading_46 ?_
        refine lv_iload_n hx hb dX4_reading_49 rfl (lv_at hl 1 rfl) ?_
        refine va_iast hx hb hK.1 hP hD hS 12 0 rfl rfl (mRd hrd hRn c35) dX4_reading_50 (fun H locs hP hD hS => ?_)
        have hP : va_P D vwCl (wMo cI h m1 m2 m3 m4 m5 m6 m7 m8 m9 m10 m11 m12 m13 lf tr an pn gr ax ra rp rg rd so sl ces kd pl wt xk xp xw wo su (upd ask rd.toNatClampNeg x) shw) H := hP
        have hD : va_D A (wMo cI h m1 m2 m3 m4 m5 m6 m7 m8 m9 m10 m11 m12 m13 lf tr an pn gr ax ra rp rg rd so sl ces kd pl wt xk xp xw wo su (upd ask rd.toNatClampNeg x) shw) := hD
        refine lv_aload_n hx hb dX4_reading_51 rfl (lv_at hl 0 rfl) ?_
        refine va_get (D := D) (ci := 4) (v := .ref m13) (C := RX4) (T := TX4) (N := 23) hx hb hts (fun _ h => List.mem_cons_of_mem _ (List.mem_append_right _ h)) hown hK.1 hP 0 rfl rfl 22 (by decide) (hts (.fieldLink RX4 46 "LieNightsModel" "readShown" "[I") (List.mem_of_getElem? (i := 3) rfl)) (fun _ h9 => h9) rfl dX4_reading_52 ?_
        refine lv_aload_n hx hb dX4_reading_55 rfl (lv_at hl 0 rfl) ?_
        refine va_get (D := D) (ci := 4) (v := .int rd) (C := RX4) (T := TX4) (N := 23) hx hb hts (fun _ h => List.mem_cons_of_mem _ (List.mem_append_right _ h)) hown hK.1 hP 0 rfl rfl 20 (by decide) (hts (.fieldLink RX4 98 "LieNightsModel" "readings" "I") (List.mem_of_getElem? (i := 1) rfl)) (fun _ h9 => h9) rfl dX4_reading_56 ?_
        refine lv_iload_n hx hb dX4_reading_59 rfl (lv_at hl 2 rfl) ?_
        refine va_iast hx hb hK.1 hP hD hS 13 0 rfl rfl (mRd hrd hRn c35) dX4_reading_60 (fun H locs hP hD hS => ?_)
        have hP : va_P D vwCl (wMo cI h m1 m2 m3 m4 m5 m6 m7 m8 m9 m10 m11 m12 m13 lf tr an pn gr ax ra rp rg rd so sl ces kd pl wt xk xp xw wo su (upd ask rd.toNatClampNeg x) (upd shw rd.toNatClampNeg v)) H := hP
        have hD : va_D A (wMo cI h m1 m2 m3 m4 m5 m6 m7 m8 m9 m10 m11 m12 m13 lf tr an pn gr ax ra rp rg rd so sl ces kd pl wt xk xp xw wo su (upd ask rd.toNatClampNeg x) (upd shw rd.toNatClampNeg v)) := hD
        refine lv_aload_n hx hb dX4_reading_61 rfl (lv_at hl 0 rfl) ?_
        refine lv_dup hx hb dX4_reading_62 rfl ?_
        refine va_get (D := D) (ci := 4) (v := .int rd) (C := RX4) (T := TX4) (N := 23) hx hb hts (fun _ h => List.mem_cons_of_mem _ (List.mem_append_right _ h)) hown hK.1 hP 0 rfl rfl 20 (by decide) (hts (.fieldLink RX4 98 "LieNightsModel" "readings" "I") (List.mem_of_getElem? (i := 1) rfl)) (fun _ h9 => h9) rfl dX4_reading_63 ?_
        refine lv_iconst (v := 1) hx hb dX4_reading_66 (by decide) ?_
        refine lv_iadd hx hb dX4_reading_67 ?_
        refine va_put (D := D) (ci := 4) (v := .int (rd + 1)) (ty := tyX4 20) (C := RX4) (T := TX4) (N := 23) hx hb hts (fun _ h => List.mem_cons_of_mem _ (List.mem_append_right _ h)) tyX4 tyX4_ok nmX4 hown hK.1 hP hD hS 0 rfl rfl 20 (by decide) (hts (.fieldLink RX4 98 "LieNightsModel" "readings" "I") (List.mem_of_getElem? (i := 1) rfl)) (fun _ h9 => h9) rfl (tyX4_ok 20 (by decide)) rfl rfl (Nat.le_of_ble_eq_true rfl) dX4_reading_68 (fun H locs hP hD hS => ?_)
        have hP : va_P D vwCl (wMo cI h m1 m2 m3 m4 m5 m6 m7 m8 m9 m10 m11 m12 m13 lf tr an pn gr ax ra rp rg (rd + 1) so sl ces kd pl wt xk xp xw wo su (upd ask rd.toNatClampNeg x) (upd shw rd.toNatClampNeg v)) H := hP
        have hD : va_D A (wMo cI h m1 m2 m3 m4 m5 m6 m7 m8 m9 m10 m11 m12 m13 lf tr an pn gr ax ra rp rg (rd + 1) so sl ces kd pl wt xk xp xw wo su (upd ask rd.toNatClampNeg x) (upd shw rd.toNatClampNeg v)) := hD
        refine lv_aload_n hx hb dX4_reading_71 rfl (lv_at hl 0 rfl) ?_
        refine va_get (D := D) (ci := 4) (v := .int (rd + 1)) (C := RX4) (T := TX4) (N := 23) hx hb hts (fun _ h => List.mem_cons_of_mem _ (List.mem_append_right _ h)) hown hK.1 hP 0 rfl rfl 20 (by decide) (hts (.fieldLink RX4 98 "LieNightsModel" "readings" "I") (List.mem_of_getElem? (i := 1) rfl)) (fun _ h9 => h9) rfl dX4_reading_72 ?_
        refine lv_iconst (v := 1) hx hb dX4_reading_75 (by decide) ?_
        refine lv_isub hx hb dX4_reading_76 ?_
        have hR1 : (fX4_reading an rd ask shw x v) = (((rd + 1) - 1), (rd + 1), (upd ask rd.toNatClampNeg x), (upd shw rd.toNatClampNeg v)) := (by unfold fX4_reading; rw [if_neg c5, if_pos c13, if_neg c35])
        rw [hQ]
        exact W.iret (v := ((rd + 1) - 1)) hx hb hr (fun t ht hW => ⟨⟨_, (), rfl, (by show _ = _; rw [hR1]), (by show va_P D vwCl _ t.heap; rw [hR1, ht]; exact hP)⟩, hS.F ht⟩) hS.2.2 dX4_reading_77
      refine lv_bipush (v := (-4)) hx hb dX4_reading_38 (by decide) ?_
      have hR2 : (fX4_reading an rd ask shw x v) = ((-4), rd, ask, shw) := (by unfold fX4_reading; rw [if_neg c5, if_pos c13, if_pos c35])
      rw [hQ]
      exact W.iret (v := (-4)) hx hb hr (fun t ht hW => ⟨⟨_, (), rfl, (by show _ = _; rw [hR2]), (by show va_P D vwCl _ t.heap; rw [hR2, ht]; exact hP)⟩, hS.F ht⟩) hS.2.2 dX4_reading_40
    refine lv_iload_n hx hb dX4_reading_16 rfl (lv_at hl 2 rfl) ?_
    refine lv_iconst (v := 0) hx hb dX4_reading_17 (by decide) ?_
    refine lv_bipush (v := 10) hx hb dX4_reading_18 (by decide) ?_
    refine kPi (va_runS (As := [.int v, .int 0, .int 10]) (rest := []) ⟨hx, hb, hml, hown, hts⟩ (c_X4_within l D cI cS v 0 10) (va_cwS 3 hts gX4_reading_X4_within rfl rfl rfl q_X4_within.2 ⟨Nat.le_of_ble_eq_true rfl, Nat.le_of_ble_eq_true rfl⟩) (kPS hK hP [] rfl [.int v, .int 0, .int 10]) rfl rfl hl.1 rfl (lv_room (Nat.le_of_ble_eq_true rfl)) dX4_reading_20 ⟨Nat.zero_le _, Nat.zero_le _⟩) ?_
    refine lv_if_ne (tgt := 29) hx hb dX4_reading_23 (by decide) (fun c23 => ?_) (fun c23 => ?_)
    · skip
      refine lv_aload_n hx hb dX4_reading_29 rfl (lv_at hl 0 rfl) ?_
      refine va_get (D := D) (ci := 4) (v := .int rd) (C := RX4) (T := TX4) (N := 23) hx hb hts (fun _ h => List.mem_cons_of_mem _ (List.mem_append_right _ h)) hown hK.1 hP 0 rfl rfl 20 (by decide) (hts (.fieldLink RX4 98 "LieNightsModel" "readings" "I") (List.mem_of_getElem? (i := 1) rfl)) (fun _ h9 => h9) rfl dX4_reading_30 ?_
      refine lv_bipush (v := 8) hx hb dX4_reading_33 (by decide) ?_
      refine lv_icmp_ne (tgt := 41) hx hb dX4_reading_35 (by decide) (fun c35 => ?_) (fun c35 => ?_)
      · skip
        refine lv_aload_n hx hb dX4_reading_41 rfl (lv_at hl 0 rfl) ?_
        refine va_get (D := D) (ci := 4) (v := .ref m12) (C := RX4) (T := TX4) (N := 23) hx hb hts (fun _ h => List.mem_cons_of_mem _ (List.mem_append_right _ h)) hown hK.1 hP 0 rfl rfl 21 (by decide) (hts (.fieldLink RX4 43 "LieNightsModel" "readAnswerOf" "[I") (List.mem_of_getElem? (i := 2) rfl)) (fun _ h9 => h9) rfl dX4_reading_42 ?_
        refine lv_aload_n hx hb dX4_reading_45 rfl (lv_at hl 0 rfl) ?_
        refine va_get (D := D) (ci := 4) (v := .int rd) (C := RX4) (T := TX4) (N := 23) hx hb hts (fun _ h => List.mem_cons_of_mem _ (List.mem_append_right _ h)) hown hK.1 hP 0 rfl rfl 20 (by decide) (hts (.fieldLink RX4 98 "LieNightsModel" "readings" "I") (List.mem_of_getElem? (i := 1) rfl)) (fun _ h9 => h9) rfl dX4_reading_46 ?_
        refine lv_iload_n hx hb dX4_reading_49 rfl (lv_at hl 1 rfl) ?_
        refine va_iast hx hb hK.1 hP hD hS 12 0 rfl rfl (mRd hrd hRn c35) dX4_reading_50 (fun H locs hP hD hS => ?_)
        have hP : va_P D vwCl (wMo cI h m1 m2 m3 m4 m5 m6 m7 m8 m9 m10 m11 m12 m13 lf tr an pn gr ax ra rp rg rd so sl ces kd pl wt xk xp xw wo su (upd ask rd.toNatClampNeg x) shw) H := hP
        have hD : va_D A (wMo cI h m1 m2 m3 m4 m5 m6 m7 m8 m9 m10 m11 m12 m13 lf tr an pn gr ax ra rp rg rd so sl ces kd pl wt xk xp xw wo su (upd ask rd.toNatClampNeg x) shw) := hD
        refine lv_aload_n hx hb dX4_reading_51 rfl (lv_at hl 0 rfl) ?_
        refine va_get (D := D) (ci := 4) (v := .ref m13) (C := RX4) (T := TX4) (N := 23) hx hb hts (fun _ h => List.mem_cons_of_mem _ (List.mem_append_right _ h)) hown hK.1 hP 0 rfl rfl 22 (by decide) (hts (.fieldLink RX4 46 "LieNightsModel" "readShown" "[I") (List.mem_of_getElem? (i := 3) rfl)) (fun _ h9 => h9) rfl dX4_reading_52 ?_
        refine lv_aload_n hx hb dX4_reading_55 rfl (lv_at hl 0 rfl) ?_
        refine va_get (D := D) (ci := 4) (v := .int rd) (C := RX4) (T := TX4) (N := 23) hx hb hts (fun _ h => List.mem_cons_of_mem _ (List.mem_append_right _ h)) hown hK.1 hP 0 rfl rfl 20 (by decide) (hts (.fieldLink RX4 98 "LieNightsModel" "readings" "I") (List.mem_of_getElem? (i := 1) rfl)) (fun _ h9 => h9) rfl dX4_reading_56 ?_
        refine lv_iload_n hx hb dX4_reading_59 rfl (lv_at hl 2 rfl) ?_
        refine va_iast hx hb hK.1 hP hD hS 13 0 rfl rfl (mRd hrd hRn c35) dX4_reading_60 (fun H locs hP hD hS => ?_)
        have hP : va_P D vwCl (wMo cI h m1 m2 m3 m4 m5 m6 m7 m8 m9 m10 m11 m12 m13 lf tr an pn gr ax ra rp rg rd so sl ces kd pl wt xk xp xw wo su (upd ask rd.toNatClampNeg x) (upd shw rd.toNatClampNeg v)) H := hP
        have hD : va_D A (wMo cI h m1 m2 m3 m4 m5 m6 m7 m8 m9 m10 m11 m12 m13 lf tr an pn gr ax ra rp rg rd so sl ces kd pl wt xk xp xw wo su (upd ask rd.toNatClampNeg x) (upd shw rd.toNatClampNeg v)) := hD
        refine lv_aload_n hx hb dX4_reading_61 rfl (lv_at hl 0 rfl) ?_
        refine lv_dup hx hb dX4_reading_62 rfl ?_
        refine va_get (D := D) (ci := 4) (v := .int rd) (C := RX4) (T := TX4) (N := 23) hx hb hts (fun _ h => List.mem_cons_of_mem _ (List.mem_append_right _ h)) hown hK.1 hP 0 rfl rfl 20 (by decide) (hts (.fieldLink RX4 98 "LieNightsModel" "readings" "I") (List.mem_of_getElem? (i := 1) rfl)) (fun _ h9 => h9) rfl dX4_reading_63 ?_
        refine lv_iconst (v := 1) hx hb dX4_reading_66 (by decide) ?_
        refine lv_iadd hx hb dX4_reading_67 ?_
        refine va_put (D := D) (ci := 4) (v := .int (rd + 1)) (ty := tyX4 20) (C := RX4) (T := TX4) (N := 23) hx hb hts (fun _ h => List.mem_cons_of_mem _ (List.mem_append_right _ h)) tyX4 tyX4_ok nmX4 hown hK.1 hP hD hS 0 rfl rfl 20 (by decide) (hts (.fieldLink RX4 98 "LieNightsModel" "readings" "I") (List.mem_of_getElem? (i := 1) rfl)) (fun _ h9 => h9) rfl (tyX4_ok 20 (by decide)) rfl rfl (Nat.le_of_ble_eq_true rfl) dX4_reading_68 (fun H locs hP hD hS => ?_)
        have hP : va_P D vwCl (wMo cI h m1 m2 m3 m4 m5 m6 m7 m8 m9 m10 m11 m12 m13 lf tr an pn gr ax ra rp rg (rd + 1) so sl ces kd pl wt xk xp xw wo su (upd ask rd.toNatClampNeg x) (upd shw rd.toNatClampNeg v)) H := hP
        have hD : va_D A (wMo cI h m1 m2 m3 m4 m5 m6 m7 m8 m9 m10 m11 m12 m13 lf tr an pn gr ax ra rp rg (rd + 1) so sl ces kd pl wt xk xp xw wo su (upd ask rd.toNatClampNeg x) (upd shw rd.toNatClampNeg v)) := hD
        refine lv_aload_n hx hb dX4_reading_71 rfl (lv_at hl 0 rfl) ?_
        refine va_get (D := D) (ci := 4) (v := .int (rd + 1)) (C := RX4) (T := TX4) (N := 23) hx hb hts (fun _ h => List.mem_cons_of_mem _ (List.mem_append_right _ h)) hown hK.1 hP 0 rfl rfl 20 (by decide) (hts (.fieldLink RX4 98 "LieNightsModel" "readings" "I") (List.mem_of_getElem? (i := 1) rfl)) (fun _ h9 => h9) rfl dX4_reading_72 ?_
        refine lv_iconst (v := 1) hx hb dX4_reading_75 (by decide) ?_
        refine lv_isub hx hb dX4_reading_76 ?_
        have hR3 : (fX4_reading an rd ask shw x v) = (((rd + 1) - 1), (rd + 1), (upd ask rd.toNatClampNeg x), (upd shw rd.toNatClampNeg v)) := (by unfold fX4_reading; rw [if_neg c5, if_neg c13, if_neg c23, if_neg c35])
        rw [hQ]
        exact W.iret (v := ((rd + 1) - 1)) hx hb hr (fun t ht hW => ⟨⟨_, (), rfl, (by show _ = _; rw [hR3]), (by show va_P D vwCl _ t.heap; rw [hR3, ht]; exact hP)⟩, hS.F ht⟩) hS.2.2 dX4_reading_77
      refine lv_bipush (v := (-4)) hx hb dX4_reading_38 (by decide) ?_
      have hR4 : (fX4_reading an rd ask shw x v) = ((-4), rd, ask, shw) := (by unfold fX4_reading; rw [if_neg c5, if_neg c13, if_neg c23, if_pos c35])
      rw [hQ]
      exact W.iret (v := (-4)) hx hb hr (fun t ht hW => ⟨⟨_, (), rfl, (by show _ = _; rw [hR4]), (by show va_P D vwCl _ t.heap; rw [hR4, ht]; exact hP)⟩, hS.F ht⟩) hS.2.2 dX4_reading_40
    refine lv_bipush (v := (-2)) hx hb dX4_reading_26 (by decide) ?_
    have hR5 : (fX4_reading an rd ask shw x v) = ((-2), rd, ask, shw) := (by unfold fX4_reading; rw [if_neg c5, if_neg c13, if_pos c23])
    rw [hQ]
    exact W.iret (v := (-2)) hx hb hr (fun t ht hW => ⟨⟨_, (), rfl, (by show _ = _; rw [hR5]), (by show va_P D vwCl _ t.heap; rw [hR5, ht]; exact hP)⟩, hS.F ht⟩) hS.2.2 dX4_reading_28
  refine lv_iconst (v := (-1)) hx hb dX4_reading_8 (by decide) ?_
  have hR6 : (fX4_reading an rd ask shw x v) = ((-1), rd, ask, shw) := (by unfold fX4_reading; rw [if_pos c5])
  rw [hQ]
  exact W.iret (v := (-1)) hx hb hr (fun t ht hW => ⟨⟨_, (), rfl, (by show _ = _; rw [hR6]), (by show va_P D vwCl _ t.heap; rw [hR6, ht]; exact hP)⟩, hS.F ht⟩) hS.2.2 dX4_reading_9

def fX4_back (rd bk : Int32) : Int32 × Int32 := (if (fX4_within bk 0 rd) = 0 then ((-2), rd) else ((rd - bk), (rd - bk)))
theorem q_X4_back : yX4_back.cls = RX4 ∧ yX4_back.cls ≠ "java/lang/invoke/MethodHandle" ∧ yX4_back.cls ≠ "java/lang/invoke/VarHandle" ∧ (parseMethodDescriptor yX4_back.desc).map (fun d => d.parameters.length) = some 1 := by decide +kernel
set_option maxHeartbeats 4000000 in
set_option maxRecDepth 100000 in
theorem c_X4_back (l : Launch) (D : va_G) (cI cS : ClassId) (h m1 m2 m3 m4 m5 m6 m7 m8 m9 m10 m11 m12 m13 : Nat) (lf tr an pn gr ax ra rp rg rd : Int32) (so sl ces kd pl wt xk xp xw wo su ask shw : Nat → Int32) (bk : Int32)  : MMi l yX4_back wsX4_back { frames := 1, cells := 0, slots := 0, locals := 22 } D cI cS (wMo cI h m1 m2 m3 m4 m5 m6 m7 m8 m9 m10 m11 m12 m13 lf tr an pn gr ax ra rp rg rd so sl ces kd pl wt xk xp xw wo su ask shw) [.ref h, .int bk] ((fX4_back rd bk).1) (wMo cI h m1 m2 m3 m4 m5 m6 m7 m8 m9 m10 m11 m12 m13 lf tr an pn gr ax ra rp rg ((fX4_back rd bk).2) so sl ces kd pl wt xk xp xw wo su ask shw) := by
  refine kEnterM (cc := cX4_back) (maxL := 2) (ret := (some .int)) (by decide) rfl (Nat.le_of_ble_eq_true rfl) ?_
  intro p e s m below meth c ls Qf hQ hx hb hml hr hlocks hown hts hK hP hD hS hl
  have hown : s.vm.findClass RX4 = some m.cls := hown
  have hl : lv_has ls 2 [(0, .ref h), (1, .int bk)] := hl
  generalize kA (wMo cI h m1 m2 m3 m4 m5 m6 m7 m8 m9 m10 m11 m12 m13 lf tr an pn gr ax ra rp rg rd so sl ces kd pl wt xk xp xw wo su ask shw) = A at hQ hD hS
  refine lv_iload_n hx hb dX4_back_0 rfl (lv_at hl 1 rfl) ?_
  refine lv_iconst (v := 0) hx hb dX4_back_1 (by decide) ?_
  refine lv_aload_n hx hb dX4_back_2 rfl (lv_at hl 0 rfl) ?_
  refine va_get (D := D) (ci := 4) (v := .int rd) (C := RX4) (T := TX4) (N := 23) hx hb hts (fun _ h => List.mem_cons_of_mem _ (List.mem_append_right _ h)) hown hK.1 hP 0 rfl rfl 20 (by decide) (hts (.fieldLink RX4 98 "LieNightsModel" "readings" "I") (List.mem_of_getElem? (i := 1) rfl)) (fun _ h9 => h9) rfl dX4_back_3 ?_
  refine kPi (va_runS (As := [.int bk, .int 0, .int rd]) (rest := []) ⟨hx, hb, hml, hown, hts⟩ (c_X4_within l D cI cS bk 0 rd) (va_cwS 3 hts gX4_back_X4_within rfl rfl rfl q_X4_within.2 ⟨Nat.le_of_ble_eq_true rfl, Nat.le_of_ble_eq_true rfl⟩) (kPS hK hP [] rfl [.int bk, .int 0, .int rd]) rfl rfl hl.1 rfl (lv_room (Nat.le_of_ble_eq_true rfl)) dX4_back_6 ⟨Nat.zero_le _, Nat.zero_le _⟩) ?_
  refine lv_if_ne (tgt := 15) hx hb dX4_back_9 (by decide) (fun c9 => ?_) (fun c9 => ?_)
  · skip
    refine lv_aload_n hx hb dX4_back_15 rfl (lv_at hl 0 rfl) ?_
    refine lv_dup hx hb dX4_back_16 rfl ?_
    refine va_get (D := D) (ci := 4) (v := .int rd) (C := RX4) (T := TX4) (N := 23) hx hb hts (fun _ h => List.mem_cons_of_mem _ (List.mem_append_right _ h)) hown hK.1 hP 0 rfl rfl 20 (by decide) (hts (.fieldLink RX4 98 "LieNightsModel" "readings" "I") (List.mem_of_getElem? (i := 1) rfl)) (fun _ h9 => h9) rfl dX4_back_17 ?_
    refine lv_iload_n hx hb dX4_back_20 rfl (lv_at hl 1 rfl) ?_
    refine lv_isub hx hb dX4_back_21 ?_
    refine va_put (D := D) (ci := 4) (v := .int (rd - bk)) (ty := tyX4 20) (C := RX4) (T := TX4) (N := 23) hx hb hts (fun _ h => List.mem_cons_of_mem _ (List.mem_append_right _ h)) tyX4 tyX4_ok nmX4 hown hK.1 hP hD hS 0 rfl rfl 20 (by decide) (hts (.fieldLink RX4 98 "LieNightsModel" "readings" "I") (List.mem_of_getElem? (i := 1) rfl)) (fun _ h9 => h9) rfl (tyX4_ok 20 (by decide)) rfl rfl (Nat.le_of_ble_eq_true rfl) dX4_back_22 (fun H locs hP hD hS => ?_)
    have hP : va_P D vwCl (wMo cI h m1 m2 m3 m4 m5 m6 m7 m8 m9 m10 m11 m12 m13 lf tr an pn gr ax ra rp rg (rd - bk) so sl ces kd pl wt xk xp xw wo su ask shw) H := hP
    have hD : va_D A (wMo cI h m1 m2 m3 m4 m5 m6 m7 m8 m9 m10 m11 m12 m13 lf tr an pn gr ax ra rp rg (rd - bk) so sl ces kd pl wt xk xp xw wo su ask shw) := hD
    refine lv_aload_n hx hb dX4_back_25 rfl (lv_at hl 0 rfl) ?_
    refine va_get (D := D) (ci := 4) (v := .int (rd - bk)) (C := RX4) (T := TX4) (N := 23) hx hb hts (fun _ h => List.mem_cons_of_mem _ (List.mem_append_right _ h)) hown hK.1 hP 0 rfl rfl 20 (by decide) (hts (.fieldLink RX4 98 "LieNightsModel" "readings" "I") (List.mem_of_getElem? (i := 1) rfl)) (fun _ h9 => h9) rfl dX4_back_26 ?_
    have hR1 : (fX4_back rd bk) = ((rd - bk), (rd - bk)) := (by unfold fX4_back; rw [if_neg c9])
    rw [hQ]
    exact W.iret (v := (rd - bk)) hx hb hr (fun t ht hW => ⟨⟨_, (), rfl, (by show _ = _; rw [hR1]), (by show va_P D vwCl _ t.heap; rw [hR1, ht]; exact hP)⟩, hS.F ht⟩) hS.2.2 dX4_back_29
  refine lv_bipush (v := (-2)) hx hb dX4_back_12 (by decide) ?_
  have hR2 : (fX4_back rd bk) = ((-2), rd) := (by unfold fX4_back; rw [if_pos c9])
  rw [hQ]
  exact W.iret (v := (-2)) hx hb hr (fun t ht hW => ⟨⟨_, (), rfl, (by show _ = _; rw [hR2]), (by show va_P D vwCl _ t.heap; rw [hR2, ht]; exact hP)⟩, hS.F ht⟩) hS.2.2 dX4_back_14

def aX4_leftSet_11 (v1_11 : Int32) : Int32 := v1_11
def sX4_leftSet_11 (kd pl ask shw : Nat → Int32) (N k11 : Nat) (v1_11 : Int32) : (Int32) := (fX4_group kd pl N (ask (nI k11).toNatClampNeg) (shw (nI k11).toNatClampNeg) v1_11)
def fX4_leftSet (an : Int32) (kd pl ask shw : Nat → Int32) (N Rn : Nat) : Int32 := (aX4_leftSet_11  (lp (fun k a => sX4_leftSet_11 kd pl ask shw N k a) ((1 <<< (an &&& 31)) - 1) Rn))
theorem q_X4_leftSet : yX4_leftSet.cls = RX4 ∧ yX4_leftSet.cls ≠ "java/lang/invoke/MethodHandle" ∧ yX4_leftSet.cls ≠ "java/lang/invoke/VarHandle" ∧ (parseMethodDescriptor yX4_leftSet.desc).map (fun d => d.parameters.length) = some 0 := by decide +kernel
set_option maxHeartbeats 4000000 in
set_option maxRecDepth 100000 in
theorem c_X4_leftSet (l : Launch) (D : va_G) (cI cS : ClassId) (h m1 m2 m3 m4 m5 m6 m7 m8 m9 m10 m11 m12 m13 : Nat) (lf tr an pn gr ax ra rp rg rd : Int32) (so sl ces kd pl wt xk xp xw wo su ask shw : Nat → Int32) (N Rn : Nat) (ha : an = nI N) (hN : N ≤ 6) (hrd : rd = nI Rn) (hRn : Rn ≤ 8) (hask : ∀ j, j < Rn → vp_in (ask j) 6) : PMi l yX4_leftSet wsX4_leftSet { frames := 2, cells := 0, slots := 0, locals := 48 } D cI cS (wMo cI h m1 m2 m3 m4 m5 m6 m7 m8 m9 m10 m11 m12 m13 lf tr an pn gr ax ra rp rg rd so sl ces kd pl wt xk xp xw wo su ask shw) [.ref h] (fX4_leftSet an kd pl ask shw N Rn) := by
  refine kEnter (cc := cX4_leftSet) (maxL := 3) (ret := (some .int)) (by decide) rfl (Nat.le_of_ble_eq_true rfl) ?_
  intro p e s m below meth c ls Qf hQ hx hb hml hr hlocks hown hts hK hP hl
  have hown : s.vm.findClass RX4 = some m.cls := hown
  have hl : lv_has ls 3 [(0, .ref h)] := hl
  refine lv_iconst (v := 1) hx hb dX4_leftSet_0 (by decide) ?_
  refine lv_aload_n hx hb dX4_leftSet_1 rfl (lv_at hl 0 rfl) ?_
  refine va_get (D := D) (ci := 4) (v := .int an) (C := RX4) (T := TX4) (N := 23) hx hb hts (fun _ h => List.mem_cons_of_mem _ (List.mem_append_right _ h)) hown hK.1 hP 0 rfl rfl 5 (by decide) (hts (.fieldLink RX4 59 "LieNightsModel" "answers" "I") (List.mem_of_getElem? (i := 1) rfl)) (fun _ h9 => h9) rfl dX4_leftSet_2 ?_
  refine lv_ishl hx hb dX4_leftSet_5 ?_
  refine lv_iconst (v := 1) hx hb dX4_leftSet_6 (by decide) ?_
  refine lv_isub hx hb dX4_leftSet_7 ?_
  refine lv_istore_n (lv' := [(1, .int ((1 <<< (an &&& 31)) - 1)), (0, .ref h)]) hx hb dX4_leftSet_8 rfl hl (by decide) rfl (fun ls hl => ?_)
  refine lv_iconst (v := 0) hx hb dX4_leftSet_9 (by decide) ?_
  refine lv_istore_n (lv' := [(2, .int 0), (1, .int ((1 <<< (an &&& 31)) - 1)), (0, .ref h)]) hx hb dX4_leftSet_10 rfl hl (by decide) rfl (fun ls hl => ?_)
  have hR1 : (fX4_leftSet an kd pl ask shw N Rn) = (aX4_leftSet_11  (lp (fun k a => sX4_leftSet_11 kd pl ask shw N k a) ((1 <<< (an &&& 31)) - 1) Rn)) := rfl
  have loop11 : ∀ (n k11 : Nat), k11 ≤ Rn → Rn + 1 ≤ k11 + n → ∀ (v1_11 : Int32), lp (fun k a => sX4_leftSet_11 kd pl ask shw N k a) ((1 <<< (an &&& 31)) - 1) k11 = v1_11 →  ∀ (ls : Array Slot), lv_has ls 3 [(0, .ref h), (1, .int v1_11), (2, .int (nI k11))] → W p l e { frames := 2, cells := 0, slots := 0, locals := 48 } s m ([.ref h] : List Value).toArray below meth c s.heap [] 0 0 Qf (F0 m 11 ls []) := by
    intro n
    induction n with
    | zero => intro k11 h1 h2; exact absurd h2 (by omega)
    | succ n ih =>
      intro k11 hk11 hn11 v1_11 hacc11  ls hl
      have ih11 := ih
      refine lv_iload_n hx hb dX4_leftSet_11 rfl (lv_at hl 2 rfl) ?_
      refine lv_aload_n hx hb dX4_leftSet_12 rfl (lv_at hl 0 rfl) ?_
      refine va_get (D := D) (ci := 4) (v := .int rd) (C := RX4) (T := TX4) (N := 23) hx hb hts (fun _ h => List.mem_cons_of_mem _ (List.mem_append_right _ h)) hown hK.1 hP 0 rfl rfl 20 (by decide) (hts (.fieldLink RX4 98 "LieNightsModel" "readings" "I") (List.mem_of_getElem? (i := 2) rfl)) (fun _ h9 => h9) rfl dX4_leftSet_13 ?_
      refine lv_icmp_ge (tgt := 43) hx hb dX4_leftSet_16 (by decide) (fun c16 => ?_) (fun c16 => ?_)
      · skip
        have hkN : k11 = Rn := (kEnd hk11 rfl hrd (by omega) c16)
        rw [hkN] at hacc11
        have hR2 : (fX4_leftSet an kd pl ask shw N Rn) = aX4_leftSet_11  v1_11 := hR1.trans (lp_end (x := v1_11) (g := (fun a => aX4_leftSet_11  a)) hacc11)
        refine lv_iload_n hx hb dX4_leftSet_43 rfl (lv_at hl 1 rfl) ?_
        have hR3 : (fX4_leftSet an kd pl ask shw N Rn) = v1_11 := hR2.trans rfl
        rw [hQ]
        exact W.iret (v := v1_11) hx hb hr (fun t ht hW => ⟨_, rfl, hR3.symm, ht⟩) (fun q h => by cases h) dX4_leftSet_44
      have hlt11 : k11 < Rn := (kLt hk11 rfl hrd c16)
      refine lv_aload_n hx hb dX4_leftSet_19 rfl (lv_at hl 0 rfl) ?_
      refine lv_aload_n hx hb dX4_leftSet_20 rfl (lv_at hl 0 rfl) ?_
      refine va_get (D := D) (ci := 4) (v := .ref m12) (C := RX4) (T := TX4) (N := 23) hx hb hts (fun _ h => List.mem_cons_of_mem _ (List.mem_append_right _ h)) hown hK.1 hP 0 rfl rfl 21 (by decide) (hts (.fieldLink RX4 43 "LieNightsModel" "readAnswerOf" "[I") (List.mem_of_getElem? (i := 3) rfl)) (fun _ h9 => h9) rfl dX4_leftSet_21 ?_
      refine lv_iload_n hx hb dX4_leftSet_24 rfl (lv_at hl 2 rfl) ?_
      refine va_iald hx hb hK.1 hP 12 0 rfl rfl (vp_in_nI (by omega) (by decide)) dX4_leftSet_25 ?_
      refine lv_aload_n hx hb dX4_leftSet_26 rfl (lv_at hl 0 rfl) ?_
      refine va_get (D := D) (ci := 4) (v := .ref m13) (C := RX4) (T := TX4) (N := 23) hx hb hts (fun _ h => List.mem_cons_of_mem _ (List.mem_append_right _ h)) hown hK.1 hP 0 rfl rfl 22 (by decide) (hts (.fieldLink RX4 46 "LieNightsModel" "readShown" "[I") (List.mem_of_getElem? (i := 4) rfl)) (fun _ h9 => h9) rfl dX4_leftSet_27 ?_
      refine lv_iload_n hx hb dX4_leftSet_30 rfl (lv_at hl 2 rfl) ?_
      refine va_iald hx hb hK.1 hP 13 0 rfl rfl (vp_in_nI (by omega) (by decide)) dX4_leftSet_31 ?_
      refine lv_iload_n hx hb dX4_leftSet_32 rfl (lv_at hl 1 rfl) ?_
      refine kPi (va_runV (As := [.int (ask (nI k11).toNatClampNeg), .int (shw (nI k11).toNatClampNeg), .int v1_11]) (rest := []) ⟨hx, hb, hml, hown, hts⟩ (c_X4_group l D cI cS h m1 m2 m3 m4 m5 m6 m7 m8 m9 m10 m11 m12 m13 lf tr an pn gr ax ra rp rg rd so sl ces kd pl wt xk xp xw wo su ask shw N (ask (nI k11).toNatClampNeg) (shw (nI k11).toNatClampNeg) v1_11 ha hN (by rw [nI_clamp (by omega)]; exact hask k11 hlt11)) (cwV 3 hts gX4_leftSet_X4_group rfl rfl rfl q_X4_group ⟨Nat.le_of_ble_eq_true rfl, Nat.le_of_ble_eq_true rfl⟩) (kPV hK hP [0, 1, 2, 3, 4, 5, 6, 7, 8, 9, 10, 11, 12, 13] rfl (va_recv hK.1 hP (ci := 4) (q0 := 0) rfl rfl) [.int (ask (nI k11).toNatClampNeg), .int (shw (nI k11).toNatClampNeg), .int v1_11]) rfl rfl hl.1 rfl (lv_room (Nat.le_of_ble_eq_true rfl)) dX4_leftSet_33 ⟨Nat.zero_le _, Nat.zero_le _⟩) ?_
      refine lv_istore_n (lv' := [(1, .int (fX4_group kd pl N (ask (nI k11).toNatClampNeg) (shw (nI k11).toNatClampNeg) v1_11)), (0, .ref h), (2, .int (nI k11))]) hx hb dX4_leftSet_36 rfl hl (by decide) rfl (fun ls hl => ?_)
      refine lv_iinc (v := (nI (k11 + 1))) (lv' := [(2, .int (nI (k11 + 1))), (1, .int (fX4_group kd pl N (ask (nI k11).toNatClampNeg) (shw (nI k11).toNatClampNeg) v1_11)), (0, .ref h)]) hx hb dX4_leftSet_37 hl (k := 2) rfl (nI_1 (k11)) (by decide) rfl (fun ls hl => ?_)
      refine lv_goto (tgt := 11) hx hb dX4_leftSet_40 (by decide) ?_
      have hR4 : sX4_leftSet_11 kd pl ask shw N k11 v1_11 = (fX4_group kd pl N (ask (nI k11).toNatClampNeg) (shw (nI k11).toNatClampNeg) v1_11) := rfl
      exact ih11 (k11 + 1) hlt11 (by omega) _ (lp_next hacc11 hR4)  ls (lv_sub hl [2, 1, 0] rfl)
  exact loop11 (Rn + 1) 0 (Nat.zero_le _) (by omega) _ rfl  ls (lv_sub hl [2, 1, 0] rfl)

def fX4_left (an : Int32) (kd pl ask shw : Nat → Int32) (N Rn : Nat) : Int32 := (if an = 0 then (-3) else (fX4_leftSet an kd pl ask shw N Rn))
theorem q_X4_left : yX4_left.cls = RX4 ∧ yX4_left.cls ≠ "java/lang/invoke/MethodHandle" ∧ yX4_left.cls ≠ "java/lang/invoke/VarHandle" ∧ (parseMethodDescriptor yX4_left.desc).map (fun d => d.parameters.length) = some 0 := by decide +kernel
set_option maxHeartbeats 4000000 in
set_option maxRecDepth 100000 in
theorem c_X4_left (l : Launch) (D : va_G) (cI cS : ClassId) (h m1 m2 m3 m4 m5 m6 m7 m8 m9 m10 m11 m12 m13 : Nat) (lf tr an pn gr ax ra rp rg rd : Int32) (so sl ces kd pl wt xk xp xw wo su ask shw : Nat → Int32) (N Rn : Nat) (ha : an = nI N) (hN : N ≤ 6) (hrd : rd = nI Rn) (hRn : Rn ≤ 8) (hask : ∀ j, j < Rn → vp_in (ask j) 6) : PMi l yX4_left wsX4_left { frames := 3, cells := 0, slots := 0, locals := 70 } D cI cS (wMo cI h m1 m2 m3 m4 m5 m6 m7 m8 m9 m10 m11 m12 m13 lf tr an pn gr ax ra rp rg rd so sl ces kd pl wt xk xp xw wo su ask shw) [.ref h] (fX4_left an kd pl ask shw N Rn) := by
  refine kEnter (cc := cX4_left) (maxL := 1) (ret := (some .int)) (by decide) rfl (Nat.le_of_ble_eq_true rfl) ?_
  intro p e s m below meth c ls Qf hQ hx hb hml hr hlocks hown hts hK hP hl
  have hown : s.vm.findClass RX4 = some m.cls := hown
  have hl : lv_has ls 1 [(0, .ref h)] := hl
  refine lv_aload_n hx hb dX4_left_0 rfl (lv_at hl 0 rfl) ?_
  refine va_get (D := D) (ci := 4) (v := .int an) (C := RX4) (T := TX4) (N := 23) hx hb hts (fun _ h => List.mem_cons_of_mem _ (List.mem_append_right _ h)) hown hK.1 hP 0 rfl rfl 5 (by decide) (hts (.fieldLink RX4 59 "LieNightsModel" "answers" "I") (List.mem_of_getElem? (i := 1) rfl)) (fun _ h9 => h9) rfl dX4_left_1 ?_
  refine lv_if_ne (tgt := 12) hx hb dX4_left_4 (by decide) (fun c4 => ?_) (fun c4 => ?_)
  · skip
    refine lv_aload_n hx hb dX4_left_12 rfl (lv_at hl 0 rfl) ?_
    refine kPi (va_runV (As := []) (rest := []) ⟨hx, hb, hml, hown, hts⟩ (c_X4_leftSet l D cI cS h m1 m2 m3 m4 m5 m6 m7 m8 m9 m10 m11 m12 m13 lf tr an pn gr ax ra rp rg rd so sl ces kd pl wt xk xp xw wo su ask shw N Rn ha hN hrd hRn hask) (cwV 0 hts gX4_left_X4_leftSet rfl rfl rfl q_X4_leftSet ⟨Nat.le_of_ble_eq_true rfl, Nat.le_of_ble_eq_true rfl⟩) (kPV hK hP [0, 1, 2, 3, 4, 5, 6, 7, 8, 9, 10, 11, 12, 13] rfl (va_recv hK.1 hP (ci := 4) (q0 := 0) rfl rfl) []) rfl rfl hl.1 rfl (lv_room (Nat.le_of_ble_eq_true rfl)) dX4_left_13 ⟨Nat.zero_le _, Nat.zero_le _⟩) ?_
    have hR1 : (fX4_left an kd pl ask shw N Rn) = (fX4_leftSet an kd pl ask shw N Rn) := (by unfold fX4_left; rw [if_neg c4])
    rw [hQ]
    exact W.iret (v := (fX4_leftSet an kd pl ask shw N Rn)) hx hb hr (fun t ht hW => ⟨_, rfl, hR1.symm, ht⟩) (fun q h => by cases h) dX4_left_16
  refine lv_bipush (v := (-3)) hx hb dX4_left_7 (by decide) ?_
  refine lv_goto (tgt := 16) hx hb dX4_left_9 (by decide) ?_
  have hR2 : (fX4_left an kd pl ask shw N Rn) = (-3) := (by unfold fX4_left; rw [if_pos c4])
  rw [hQ]
  exact W.iret (v := (-3)) hx hb hr (fun t ht hW => ⟨_, rfl, hR2.symm, ht⟩) (fun q h => by cases h) dX4_left_16

def aX4_kinds_22 (kd : Nat → Int32) (x v3_22 : Int32) (wkd_22 : Nat → Int32) : (Int32 × (Nat → Int32)) := (v3_22, (upd wkd_22 x.toNatClampNeg (kd x.toNatClampNeg)))
def sX4_kinds_22 (an : Int32) (pl ask shw : Nat → Int32) (N Rn : Nat) (x : Int32) (k22 : Nat) (v3_22 : Int32) (wkd_22 : Nat → Int32) : (Int32 × (Nat → Int32)) := (if (fX4_leftSet an (upd wkd_22 x.toNatClampNeg (nI k22)) pl ask shw N Rn) = 0 then ((v3_22 ||| 0), (upd wkd_22 x.toNatClampNeg (nI k22))) else ((v3_22 ||| (1 <<< ((nI k22) &&& 31))), (upd wkd_22 x.toNatClampNeg (nI k22))))
def fX4_kinds (an : Int32) (kd pl ask shw : Nat → Int32) (N Rn : Nat) (x : Int32) : Int32 × (Nat → Int32) := (if (fX4_isAnswer an x) = 0 then ((-1), kd) else (aX4_kinds_22 kd x ((lp (fun k a => sX4_kinds_22 an pl ask shw N Rn x k a.1 a.2) (0, kd) 3).1) ((lp (fun k a => sX4_kinds_22 an pl ask shw N Rn x k a.1 a.2) (0, kd) 3).2)))
theorem q_X4_kinds : yX4_kinds.cls = RX4 ∧ yX4_kinds.cls ≠ "java/lang/invoke/MethodHandle" ∧ yX4_kinds.cls ≠ "java/lang/invoke/VarHandle" ∧ (parseMethodDescriptor yX4_kinds.desc).map (fun d => d.parameters.length) = some 1 := by decide +kernel
set_option maxHeartbeats 4000000 in
set_option maxRecDepth 100000 in
theorem c_X4_kinds (l : Launch) (D : va_G) (cI cS : ClassId) (h m1 m2 m3 m4 m5 m6 m7 m8 m9 m10 m11 m12 m13 : Nat) (lf tr an pn gr ax ra rp rg rd : Int32) (so sl ces kd pl wt xk xp xw wo su ask shw : Nat → Int32) (N Rn : Nat) (x : Int32) (ha : an = nI N) (hN : N ≤ 6) (hrd : rd = nI Rn) (hRn : Rn ≤ 8) (hask : ∀ j, j < Rn → vp_in (ask j) 6) : MMi l yX4_kinds wsX4_kinds { frames := 3, cells := 0, slots := 0, locals := 70 } D cI cS (wMo cI h m1 m2 m3 m4 m5 m6 m7 m8 m9 m10 m11 m12 m13 lf tr an pn gr ax ra rp rg rd so sl ces kd pl wt xk xp xw wo su ask shw) [.ref h, .int x] ((fX4_kinds an kd pl ask shw N Rn x).1) (wMo cI h m1 m2 m3 m4 m5 m6 m7 m8 m9 m10 m11 m12 m13 lf tr an pn gr ax ra rp rg rd so sl ces ((fX4_kinds an kd pl ask shw N Rn x).2) pl wt xk xp xw wo su ask shw) := by
  refine kEnterM (cc := cX4_kinds) (maxL := 5) (ret := (some .int)) (by decide) rfl (Nat.le_of_ble_eq_true rfl) ?_
  intro p e s m below meth c ls Qf hQ hx hb hml hr hlocks hown hts hK hP hD hS hl
  have hown : s.vm.findClass RX4 = some m.cls := hown
  have hl : lv_has ls 5 [(0, .ref h), (1, .int x)] := hl
  generalize kA (wMo cI h m1 m2 m3 m4 m5 m6 m7 m8 m9 m10 m11 m12 m13 lf tr an pn gr ax ra rp rg rd so sl ces kd pl wt xk xp xw wo su ask shw) = A at hQ hD hS
  refine lv_aload_n hx hb dX4_kinds_0 rfl (lv_at hl 0 rfl) ?_
  refine lv_iload_n hx hb dX4_kinds_1 rfl (lv_at hl 1 rfl) ?_
  refine kPi (va_runV (As := [.int x]) (rest := []) ⟨hx, hb, hml, hown, hts⟩ (c_X4_isAnswer l D cI cS h m1 m2 m3 m4 m5 m6 m7 m8 m9 m10 m11 m12 m13 lf tr an pn gr ax ra rp rg rd so sl ces kd pl wt xk xp xw wo su ask shw x) (cwV 1 hts gX4_kinds_X4_isAnswer rfl rfl rfl q_X4_isAnswer ⟨Nat.le_of_ble_eq_true rfl, Nat.le_of_ble_eq_true rfl⟩) (kPV hK hP [0, 1, 2, 3, 4, 5, 6, 7, 8, 9, 10, 11, 12, 13] rfl (va_recv hK.1 hP (ci := 4) (q0 := 0) rfl rfl) [.int x]) rfl rfl hl.1 rfl (lv_room (Nat.le_of_ble_eq_true rfl)) dX4_kinds_2 ⟨Nat.zero_le _, Nat.zero_le _⟩) ?_
  refine lv_if_ne (tgt := 10) hx hb dX4_kinds_5 (by decide) (fun c5 => ?_) (fun c5 => ?_)
  · skip
    refine lv_aload_n hx hb dX4_kinds_10 rfl (lv_at hl 0 rfl) ?_
    refine va_get (D := D) (ci := 4) (v := .ref m4) (C := RX4) (T := TX4) (N := 23) hx hb hts (fun _ h => List.mem_cons_of_mem _ (List.mem_append_right _ h)) hown hK.1 hP 0 rfl rfl 8 (by decide) (hts (.fieldLink RX4 19 "LieNightsModel" "kind" "[I") (List.mem_of_getElem? (i := 1) rfl)) (fun _ h9 => h9) rfl dX4_kinds_11 ?_
    refine lv_iload_n hx hb dX4_kinds_14 rfl (lv_at hl 1 rfl) ?_
    refine va_iald hx hb hK.1 hP 4 0 rfl rfl (mAns ha hN c5) dX4_kinds_15 ?_
    refine lv_istore_n (lv' := [(2, .int (kd x.toNatClampNeg)), (0, .ref h), (1, .int x)]) hx hb dX4_kinds_16 rfl hl (by decide) rfl (fun ls hl => ?_)
    refine lv_iconst (v := 0) hx hb dX4_kinds_17 (by decide) ?_
    refine lv_istore_n (lv' := [(3, .int 0), (2, .int (kd x.toNatClampNeg)), (0, .ref h), (1, .int x)]) hx hb dX4_kinds_18 rfl hl (by decide) rfl (fun ls hl => ?_)
    refine lv_iconst (v := 0) hx hb dX4_kinds_19 (by decide) ?_
    refine lv_istore (lv' := [(4, .int 0), (3, .int 0), (2, .int (kd x.toNatClampNeg)), (0, .ref h), (1, .int x)]) hx hb dX4_kinds_20 hl (by decide) rfl (fun ls hl => ?_)
    have hR1 : (fX4_kinds an kd pl ask shw N Rn x) = (aX4_kinds_22 kd x ((lp (fun k a => sX4_kinds_22 an pl ask shw N Rn x k a.1 a.2) (0, kd) 3).1) ((lp (fun k a => sX4_kinds_22 an pl ask shw N Rn x k a.1 a.2) (0, kd) 3).2)) := (by unfold fX4_kinds; rw [if_neg c5])
    have loop22 : ∀ (n k22 : Nat), k22 ≤ 3 → 3 + 1 ≤ k22 + n → ∀ (v3_22 : Int32) (wkd_22 : Nat → Int32), lp (fun k a => sX4_kinds_22 an pl ask shw N Rn x k a.1 a.2) (0, kd) k22 = (v3_22, wkd_22) →  ∀ (H : Heap) (locs : List Loc), va_P D vwCl (wMo cI h m1 m2 m3 m4 m5 m6 m7 m8 m9 m10 m11 m12 m13 lf tr an pn gr ax ra rp rg rd so sl ces wkd_22 pl wt xk xp xw wo su ask shw) H → va_D A (wMo cI h m1 m2 m3 m4 m5 m6 m7 m8 m9 m10 m11 m12 m13 lf tr an pn gr ax ra rp rg rd so sl ces wkd_22 pl wt xk xp xw wo su ask shw) → va_S A s.heap H locs → ∀ (ls : Array Slot), lv_has ls 5 [(0, .ref h), (1, .int x), (2, .int (kd x.toNatClampNeg)), (3, .int v3_22), (4, .int (nI k22))] → W p l e { frames := 3, cells := 0, slots := 0, locals := 70 } s m ([.ref h, .int x] : List Value).toArray below meth c H locs 0 0 Qf (F0 m 22 ls []) := by
      intro n
      induction n with
      | zero => intro k22 h1 h2; exact absurd h2 (by omega)
      | succ n ih =>
        intro k22 hk22 hn22 v3_22 wkd_22 hacc22  H locs hP hD hS ls hl
        have ih22 := ih
        refine lv_iload hx hb dX4_kinds_22 (lv_at hl 4 rfl) ?_
        refine lv_iconst (v := 3) hx hb dX4_kinds_24 (by decide) ?_
        refine lv_icmp_ge (tgt := 60) hx hb dX4_kinds_25 (by decide) (fun c25 => ?_) (fun c25 => ?_)
        · skip
          have hkN : k22 = 3 := (kEnd hk22 rfl rfl (by omega) c25)
          rw [hkN] at hacc22
          have hR2 : (fX4_kinds an kd pl ask shw N Rn x) = aX4_kinds_22 kd x v3_22 wkd_22 := hR1.trans (lp_end (x := (v3_22, wkd_22)) (g := (fun a => aX4_kinds_22 kd x a.1 a.2)) hacc22)
          refine lv_aload_n hx hb dX4_kinds_60 rfl (lv_at hl 0 rfl) ?_
          refine va_get (D := D) (ci := 4) (v := .ref m4) (C := RX4) (T := TX4) (N := 23) hx hb hts (fun _ h => List.mem_cons_of_mem _ (List.mem_append_right _ h)) hown hK.1 hP 0 rfl rfl 8 (by decide) (hts (.fieldLink RX4 19 "LieNightsModel" "kind" "[I") (List.mem_of_getElem? (i := 1) rfl)) (fun _ h9 => h9) rfl dX4_kinds_61 ?_
          refine lv_iload_n hx hb dX4_kinds_64 rfl (lv_at hl 1 rfl) ?_
          refine lv_iload_n hx hb dX4_kinds_65 rfl (lv_at hl 2 rfl) ?_
          refine va_iast hx hb hK.1 hP hD hS 4 0 rfl rfl (mAns ha hN c5) dX4_kinds_66 (fun H locs hP hD hS => ?_)
          have hP : va_P D vwCl (wMo cI h m1 m2 m3 m4 m5 m6 m7 m8 m9 m10 m11 m12 m13 lf tr an pn gr ax ra rp rg rd so sl ces (upd wkd_22 x.toNatClampNeg (kd x.toNatClampNeg)) pl wt xk xp xw wo su ask shw) H := hP
          have hD : va_D A (wMo cI h m1 m2 m3 m4 m5 m6 m7 m8 m9 m10 m11 m12 m13 lf tr an pn gr ax ra rp rg rd so sl ces (upd wkd_22 x.toNatClampNeg (kd x.toNatClampNeg)) pl wt xk xp xw wo su ask shw) := hD
          refine lv_iload_n hx hb dX4_kinds_67 rfl (lv_at hl 3 rfl) ?_
          have hR3 : (fX4_kinds an kd pl ask shw N Rn x) = (v3_22, (upd wkd_22 x.toNatClampNeg (kd x.toNatClampNeg))) := hR2.trans rfl
          rw [hQ]
          exact W.iret (v := v3_22) hx hb hr (fun t ht hW => ⟨⟨_, (), rfl, (by show _ = _; rw [hR3]), (by show va_P D vwCl _ t.heap; rw [hR3, ht]; exact hP)⟩, hS.F ht⟩) hS.2.2 dX4_kinds_68
        have hlt22 : k22 < 3 := (kLt hk22 rfl rfl c25)
        refine lv_aload_n hx hb dX4_kinds_28 rfl (lv_at hl 0 rfl) ?_
        refine va_get (D := D) (ci := 4) (v := .ref m4) (C := RX4) (T := TX4) (N := 23) hx hb hts (fun _ h => List.mem_cons_of_mem _ (List.mem_append_right _ h)) hown hK.1 hP 0 rfl rfl 8 (by decide) (hts (.fieldLink RX4 19 "LieNightsModel" "kind" "[I") (List.mem_of_getElem? (i := 1) rfl)) (fun _ h9 => h9) rfl dX4_kinds_29 ?_
        refine lv_iload_n hx hb dX4_kinds_32 rfl (lv_at hl 1 rfl) ?_
        refine lv_iload hx hb dX4_kinds_33 (lv_at hl 4 rfl) ?_
        refine va_iast hx hb hK.1 hP hD hS 4 0 rfl rfl (mAns ha hN c5) dX4_kinds_35 (fun H locs hP hD hS => ?_)
        have hP : va_P D vwCl (wMo cI h m1 m2 m3 m4 m5 m6 m7 m8 m9 m10 m11 m12 m13 lf tr an pn gr ax ra rp rg rd so sl ces (upd wkd_22 x.toNatClampNeg (nI k22)) pl wt xk xp xw wo su ask shw) H := hP
        have hD : va_D A (wMo cI h m1 m2 m3 m4 m5 m6 m7 m8 m9 m10 m11 m12 m13 lf tr an pn gr ax ra rp rg rd so sl ces (upd wkd_22 x.toNatClampNeg (nI k22)) pl wt xk xp xw wo su ask shw) := hD
        refine lv_iload_n hx hb dX4_kinds_36 rfl (lv_at hl 3 rfl) ?_
        refine lv_aload_n hx hb dX4_kinds_37 rfl (lv_at hl 0 rfl) ?_
        refine kPi (va_runV (As := []) (rest := [.int v3_22]) ⟨hx, hb, hml, hown, hts⟩ (c_X4_leftSet l D cI cS h m1 m2 m3 m4 m5 m6 m7 m8 m9 m10 m11 m12 m13 lf tr an pn gr ax ra rp rg rd so sl ces (upd wkd_22 x.toNatClampNeg (nI k22)) pl wt xk xp xw wo su ask shw N Rn ha hN hrd hRn hask) (cwV 0 hts gX4_kinds_X4_leftSet rfl rfl rfl q_X4_leftSet ⟨Nat.le_of_ble_eq_true rfl, Nat.le_of_ble_eq_true rfl⟩) (kPV hK hP [0, 1, 2, 3, 4, 5, 6, 7, 8, 9, 10, 11, 12, 13] rfl (va_recv hK.1 hP (ci := 4) (q0 := 0) rfl rfl) []) rfl rfl hl.1 rfl (lv_room (Nat.le_of_ble_eq_true rfl)) dX4_kinds_38 ⟨Nat.zero_le _, Nat.zero_le _⟩) ?_
        refine lv_if_eq (tgt := 51) hx hb dX4_kinds_41 (by decide) (fun c41 => ?_) (fun c41 => ?_)
        · skip
          refine lv_iconst (v := 0) hx hb dX4_kinds_51 (by decide) ?_
          refine lv_ior hx hb dX4_kinds_52 ?_
          refine lv_istore_n (lv' := [(3, .int (v3_22 ||| 0)), (0, .ref h), (1, .int x), (2, .int (kd x.toNatClampNeg)), (4, .int (nI k22))]) hx hb dX4_kinds_53 rfl hl (by decide) rfl (fun ls hl => ?_)
          refine lv_iinc (v := (nI (k22 + 1))) (lv' := [(4, .int (nI (k22 + 1))), (3, .int (v3_22 ||| 0)), (0, .ref h), (1, .int x), (2, .int (kd x.toNatClampNeg))]) hx hb dX4_kinds_54 hl (k := 4) rfl (nI_1 (k22)) (by decide) rfl (fun ls hl => ?_)
          refine lv_goto (tgt := 22) hx hb dX4_kinds_57 (by decide) ?_
          have hR4 : sX4_kinds_22 an pl ask shw N Rn x k22 v3_22 wkd_22 = ((v3_22 ||| 0), (upd wkd_22 x.toNatClampNeg (nI k22))) := (by unfold sX4_kinds_22; rw [if_pos c41])
          exact ih22 (k22 + 1) hlt22 (by omega) _ _ (lp_next hacc22 hR4)  _ _ hP hD hS ls (lv_sub hl [2, 3, 4, 1, 0] rfl)
        refine lv_iconst (v := 1) hx hb dX4_kinds_44 (by decide) ?_
        refine lv_iload hx hb dX4_kinds_45 (lv_at hl 4 rfl) ?_
        refine lv_ishl hx hb dX4_kinds_47 ?_
        refine lv_goto (tgt := 52) hx hb dX4_kinds_48 (by decide) ?_
        refine lv_ior hx hb dX4_kinds_52 ?_
        refine lv_istore_n (lv' := [(3, .int (v3_22 ||| (1 <<< ((nI k22) &&& 31)))), (0, .ref h), (1, .int x), (2, .int (kd x.toNatClampNeg)), (4, .int (nI k22))]) hx hb dX4_kinds_53 rfl hl (by decide) rfl (fun ls hl => ?_)
        refine lv_iinc (v := (nI (k22 + 1))) (lv' := [(4, .int (nI (k22 + 1))), (3, .int (v3_22 ||| (1 <<< ((nI k22) &&& 31)))), (0, .ref h), (1, .int x), (2, .int (kd x.toNatClampNeg))]) hx hb dX4_kinds_54 hl (k := 4) rfl (nI_1 (k22)) (by decide) rfl (fun ls hl => ?_)
        refine lv_goto (tgt := 22) hx hb dX4_kinds_57 (by decide) ?_
        have hR5 : sX4_kinds_22 an pl ask shw N Rn x k22 v3_22 wkd_22 = ((v3_22 ||| (1 <<< ((nI k22) &&& 31))), (upd wkd_22 x.toNatClampNeg (nI k22))) := (by unfold sX4_kinds_22; rw [if_neg c41])
        exact ih22 (k22 + 1) hlt22 (by omega) _ _ (lp_next hacc22 hR5)  _ _ hP hD hS ls (lv_sub hl [2, 3, 4, 1, 0] rfl)
    exact loop22 (3 + 1) 0 (Nat.zero_le _) (by omega) _ _ rfl  _ _ hP hD hS ls (lv_sub hl [3, 4, 2, 1, 0] rfl)
  refine lv_iconst (v := (-1)) hx hb dX4_kinds_8 (by decide) ?_
  have hR6 : (fX4_kinds an kd pl ask shw N Rn x) = ((-1), kd) := (by unfold fX4_kinds; rw [if_pos c5])
  rw [hQ]
  exact W.iret (v := (-1)) hx hb hr (fun t ht hW => ⟨⟨_, (), rfl, (by show _ = _; rw [hR6]), (by show va_P D vwCl _ t.heap; rw [hR6, ht]; exact hP)⟩, hS.F ht⟩) hS.2.2 dX4_kinds_9

def aX4_places_22 (pl : Nat → Int32) (x v3_22 : Int32) (wpl_22 : Nat → Int32) : (Int32 × (Nat → Int32)) := (v3_22, (upd wpl_22 x.toNatClampNeg (pl x.toNatClampNeg)))
def sX4_places_22 (an : Int32) (kd ask shw : Nat → Int32) (N Rn : Nat) (x : Int32) (k22 : Nat) (v3_22 : Int32) (wpl_22 : Nat → Int32) : (Int32 × (Nat → Int32)) := (if (fX4_leftSet an kd (upd wpl_22 x.toNatClampNeg (nI k22)) ask shw N Rn) = 0 then ((v3_22 ||| 0), (upd wpl_22 x.toNatClampNeg (nI k22))) else ((v3_22 ||| (1 <<< ((nI k22) &&& 31))), (upd wpl_22 x.toNatClampNeg (nI k22))))
def fX4_places (an : Int32) (kd pl ask shw : Nat → Int32) (N Rn : Nat) (x : Int32) : Int32 × (Nat → Int32) := (if (fX4_isAnswer an x) = 0 then ((-1), pl) else (aX4_places_22 pl x ((lp (fun k a => sX4_places_22 an kd ask shw N Rn x k a.1 a.2) (0, pl) 10).1) ((lp (fun k a => sX4_places_22 an kd ask shw N Rn x k a.1 a.2) (0, pl) 10).2)))
theorem q_X4_places : yX4_places.cls = RX4 ∧ yX4_places.cls ≠ "java/lang/invoke/MethodHandle" ∧ yX4_places.cls ≠ "java/lang/invoke/VarHandle" ∧ (parseMethodDescriptor yX4_places.desc).map (fun d => d.parameters.length) = some 1 := by decide +kernel
set_option maxHeartbeats 4000000 in
set_option maxRecDepth 100000 in
theorem c_X4_places (l : Launch) (D : va_G) (cI cS : ClassId) (h m1 m2 m3 m4 m5 m6 m7 m8 m9 m10 m11 m12 m13 : Nat) (lf tr an pn gr ax ra rp rg rd : Int32) (so sl ces kd pl wt xk xp xw wo su ask shw : Nat → Int32) (N Rn : Nat) (x : Int32) (ha : an = nI N) (hN : N ≤ 6) (hrd : rd = nI Rn) (hRn : Rn ≤ 8) (hask : ∀ j, j < Rn → vp_in (ask j) 6) : MMi l yX4_places wsX4_places { frames := 3, cells := 0, slots := 0, locals := 70 } D cI cS (wMo cI h m1 m2 m3 m4 m5 m6 m7 m8 m9 m10 m11 m12 m13 lf tr an pn gr ax ra rp rg rd so sl ces kd pl wt xk xp xw wo su ask shw) [.ref h, .int x] ((fX4_places an kd pl ask shw N Rn x).1) (wMo cI h m1 m2 m3 m4 m5 m6 m7 m8 m9 m10 m11 m12 m13 lf tr an pn gr ax ra rp rg rd so sl ces kd ((fX4_places an kd pl ask shw N Rn x).2) wt xk xp xw wo su ask shw) := by
  refine kEnterM (cc := cX4_places) (maxL := 5) (ret := (some .int)) (by decide) rfl (Nat.le_of_ble_eq_true rfl) ?_
  intro p e s m below meth c ls Qf hQ hx hb hml hr hlocks hown hts hK hP hD hS hl
  have hown : s.vm.findClass RX4 = some m.cls := hown
  have hl : lv_has ls 5 [(0, .ref h), (1, .int x)] := hl
  generalize kA (wMo cI h m1 m2 m3 m4 m5 m6 m7 m8 m9 m10 m11 m12 m13 lf tr an pn gr ax ra rp rg rd so sl ces kd pl wt xk xp xw wo su ask shw) = A at hQ hD hS
  refine lv_aload_n hx hb dX4_places_0 rfl (lv_at hl 0 rfl) ?_
  refine lv_iload_n hx hb dX4_places_1 rfl (lv_at hl 1 rfl) ?_
  refine kPi (va_runV (As := [.int x]) (rest := []) ⟨hx, hb, hml, hown, hts⟩ (c_X4_isAnswer l D cI cS h m1 m2 m3 m4 m5 m6 m7 m8 m9 m10 m11 m12 m13 lf tr an pn gr ax ra rp rg rd so sl ces kd pl wt xk xp xw wo su ask shw x) (cwV 1 hts gX4_places_X4_isAnswer rfl rfl rfl q_X4_isAnswer ⟨Nat.le_of_ble_eq_true rfl, Nat.le_of_ble_eq_true rfl⟩) (kPV hK hP [0, 1, 2, 3, 4, 5, 6, 7, 8, 9, 10, 11, 12, 13] rfl (va_recv hK.1 hP (ci := 4) (q0 := 0) rfl rfl) [.int x]) rfl rfl hl.1 rfl (lv_room (Nat.le_of_ble_eq_true rfl)) dX4_places_2 ⟨Nat.zero_le _, Nat.zero_le _⟩) ?_
  refine lv_if_ne (tgt := 10) hx hb dX4_places_5 (by decide) (fun c5 => ?_) (fun c5 => ?_)
  · skip
    refine lv_aload_n hx hb dX4_places_10 rfl (lv_at hl 0 rfl) ?_
    refine va_get (D := D) (ci := 4) (v := .ref m5) (C := RX4) (T := TX4) (N := 23) hx hb hts (fun _ h => List.mem_cons_of_mem _ (List.mem_append_right _ h)) hown hK.1 hP 0 rfl rfl 9 (by decide) (hts (.fieldLink RX4 22 "LieNightsModel" "place" "[I") (List.mem_of_getElem? (i := 1) rfl)) (fun _ h9 => h9) rfl dX4_places_11 ?_
    refine lv_iload_n hx hb dX4_places_14 rfl (lv_at hl 1 rfl) ?_
    refine va_iald hx hb hK.1 hP 5 0 rfl rfl (mAns ha hN c5) dX4_places_15 ?_
    refine lv_istore_n (lv' := [(2, .int (pl x.toNatClampNeg)), (0, .ref h), (1, .int x)]) hx hb dX4_places_16 rfl hl (by decide) rfl (fun ls hl => ?_)
    refine lv_iconst (v := 0) hx hb dX4_places_17 (by decide) ?_
    refine lv_istore_n (lv' := [(3, .int 0), (2, .int (pl x.toNatClampNeg)), (0, .ref h), (1, .int x)]) hx hb dX4_places_18 rfl hl (by decide) rfl (fun ls hl => ?_)
    refine lv_iconst (v := 0) hx hb dX4_places_19 (by decide) ?_
    refine lv_istore (lv' := [(4, .int 0), (3, .int 0), (2, .int (pl x.toNatClampNeg)), (0, .ref h), (1, .int x)]) hx hb dX4_places_20 hl (by decide) rfl (fun ls hl => ?_)
    have hR1 : (fX4_places an kd pl ask shw N Rn x) = (aX4_places_22 pl x ((lp (fun k a => sX4_places_22 an kd ask shw N Rn x k a.1 a.2) (0, pl) 10).1) ((lp (fun k a => sX4_places_22 an kd ask shw N Rn x k a.1 a.2) (0, pl) 10).2)) := (by unfold fX4_places; rw [if_neg c5])
    have loop22 : ∀ (n k22 : Nat), k22 ≤ 10 → 10 + 1 ≤ k22 + n → ∀ (v3_22 : Int32) (wpl_22 : Nat → Int32), lp (fun k a => sX4_places_22 an kd ask shw N Rn x k a.1 a.2) (0, pl) k22 = (v3_22, wpl_22) →  ∀ (H : Heap) (locs : List Loc), va_P D vwCl (wMo cI h m1 m2 m3 m4 m5 m6 m7 m8 m9 m10 m11 m12 m13 lf tr an pn gr ax ra rp rg rd so sl ces kd wpl_22 wt xk xp xw wo su ask shw) H → va_D A (wMo cI h m1 m2 m3 m4 m5 m6 m7 m8 m9 m10 m11 m12 m13 lf tr an pn gr ax ra rp rg rd so sl ces kd wpl_22 wt xk xp xw wo su ask shw) → va_S A s.heap H locs → ∀ (ls : Array Slot), lv_has ls 5 [(0, .ref h), (1, .int x), (2, .int (pl x.toNatClampNeg)), (3, .int v3_22), (4, .int (nI k22))] → W p l e { frames := 3, cells := 0, slots := 0, locals := 70 } s m ([.ref h, .int x] : List Value).toArray below meth c H locs 0 0 Qf (F0 m 22 ls []) := by
      intro n
      induction n with
      | zero => intro k22 h1 h2; exact absurd h2 (by omega)
      | succ n ih =>
        intro k22 hk22 hn22 v3_22 wpl_22 hacc22  H locs hP hD hS ls hl
        have ih22 := ih
        refine lv_iload hx hb dX4_places_22 (lv_at hl 4 rfl) ?_
        refine lv_bipush (v := 9) hx hb dX4_places_24 (by decide) ?_
        refine lv_icmp_gt (tgt := 61) hx hb dX4_places_26 (by decide) (fun c26 => ?_) (fun c26 => ?_)
        · skip
          have hkN : k22 = 10 := (kEndG (N := 9) hk22 rfl rfl (by omega) c26)
          rw [hkN] at hacc22
          have hR2 : (fX4_places an kd pl ask shw N Rn x) = aX4_places_22 pl x v3_22 wpl_22 := hR1.trans (lp_end (x := (v3_22, wpl_22)) (g := (fun a => aX4_places_22 pl x a.1 a.2)) hacc22)
          refine lv_aload_n hx hb dX4_places_61 rfl (lv_at hl 0 rfl) ?_
          refine va_get (D := D) (ci := 4) (v := .ref m5) (C := RX4) (T := TX4) (N := 23) hx hb hts (fun _ h => List.mem_cons_of_mem _ (List.mem_append_right _ h)) hown hK.1 hP 0 rfl rfl 9 (by decide) (hts (.fieldLink RX4 22 "LieNightsModel" "place" "[I") (List.mem_of_getElem? (i := 1) rfl)) (fun _ h9 => h9) rfl dX4_places_62 ?_
          refine lv_iload_n hx hb dX4_places_65 rfl (lv_at hl 1 rfl) ?_
          refine lv_iload_n hx hb dX4_places_66 rfl (lv_at hl 2 rfl) ?_
          refine va_iast hx hb hK.1 hP hD hS 5 0 rfl rfl (mAns ha hN c5) dX4_places_67 (fun H locs hP hD hS => ?_)
          have hP : va_P D vwCl (wMo cI h m1 m2 m3 m4 m5 m6 m7 m8 m9 m10 m11 m12 m13 lf tr an pn gr ax ra rp rg rd so sl ces kd (upd wpl_22 x.toNatClampNeg (pl x.toNatClampNeg)) wt xk xp xw wo su ask shw) H := hP
          have hD : va_D A (wMo cI h m1 m2 m3 m4 m5 m6 m7 m8 m9 m10 m11 m12 m13 lf tr an pn gr ax ra rp rg rd so sl ces kd (upd wpl_22 x.toNatClampNeg (pl x.toNatClampNeg)) wt xk xp xw wo su ask shw) := hD
          refine lv_iload_n hx hb dX4_places_68 rfl (lv_at hl 3 rfl) ?_
          have hR3 : (fX4_places an kd pl ask shw N Rn x) = (v3_22, (upd wpl_22 x.toNatClampNeg (pl x.toNatClampNeg))) := hR2.trans rfl
          rw [hQ]
          exact W.iret (v := v3_22) hx hb hr (fun t ht hW => ⟨⟨_, (), rfl, (by show _ = _; rw [hR3]), (by show va_P D vwCl _ t.heap; rw [hR3, ht]; exact hP)⟩, hS.F ht⟩) hS.2.2 dX4_places_69
        have hlt22 : k22 < 10 := (kLtG (N := 9) hk22 rfl rfl (by omega) c26)
        refine lv_aload_n hx hb dX4_places_29 rfl (lv_at hl 0 rfl) ?_
        refine va_get (D := D) (ci := 4) (v := .ref m5) (C := RX4) (T := TX4) (N := 23) hx hb hts (fun _ h => List.mem_cons_of_mem _ (List.mem_append_right _ h)) hown hK.1 hP 0 rfl rfl 9 (by decide) (hts (.fieldLink RX4 22 "LieNightsModel" "place" "[I") (List.mem_of_getElem? (i := 1) rfl)) (fun _ h9 => h9) rfl dX4_places_30 ?_
        refine lv_iload_n hx hb dX4_places_33 rfl (lv_at hl 1 rfl) ?_
        refine lv_iload hx hb dX4_places_34 (lv_at hl 4 rfl) ?_
        refine va_iast hx hb hK.1 hP hD hS 5 0 rfl rfl (mAns ha hN c5) dX4_places_36 (fun H locs hP hD hS => ?_)
        have hP : va_P D vwCl (wMo cI h m1 m2 m3 m4 m5 m6 m7 m8 m9 m10 m11 m12 m13 lf tr an pn gr ax ra rp rg rd so sl ces kd (upd wpl_22 x.toNatClampNeg (nI k22)) wt xk xp xw wo su ask shw) H := hP
        have hD : va_D A (wMo cI h m1 m2 m3 m4 m5 m6 m7 m8 m9 m10 m11 m12 m13 lf tr an pn gr ax ra rp rg rd so sl ces kd (upd wpl_22 x.toNatClampNeg (nI k22)) wt xk xp xw wo su ask shw) := hD
        refine lv_iload_n hx hb dX4_places_37 rfl (lv_at hl 3 rfl) ?_
        refine lv_aload_n hx hb dX4_places_38 rfl (lv_at hl 0 rfl) ?_
        refine kPi (va_runV (As := []) (rest := [.int v3_22]) ⟨hx, hb, hml, hown, hts⟩ (c_X4_leftSet l D cI cS h m1 m2 m3 m4 m5 m6 m7 m8 m9 m10 m11 m12 m13 lf tr an pn gr ax ra rp rg rd so sl ces kd (upd wpl_22 x.toNatClampNeg (nI k22)) wt xk xp xw wo su ask shw N Rn ha hN hrd hRn hask) (cwV 0 hts gX4_places_X4_leftSet rfl rfl rfl q_X4_leftSet ⟨Nat.le_of_ble_eq_true rfl, Nat.le_of_ble_eq_true rfl⟩) (kPV hK hP [0, 1, 2, 3, 4, 5, 6, 7, 8, 9, 10, 11, 12, 13] rfl (va_recv hK.1 hP (ci := 4) (q0 := 0) rfl rfl) []) rfl rfl hl.1 rfl (lv_room (Nat.le_of_ble_eq_true rfl)) dX4_places_39 ⟨Nat.zero_le _, Nat.zero_le _⟩) ?_
        refine lv_if_eq (tgt := 52) hx hb dX4_places_42 (by decide) (fun c42 => ?_) (fun c42 => ?_)
        · skip
          refine lv_iconst (v := 0) hx hb dX4_places_52 (by decide) ?_
          refine lv_ior hx hb dX4_places_53 ?_
          refine lv_istore_n (lv' := [(3, .int (v3_22 ||| 0)), (0, .ref h), (1, .int x), (2, .int (pl x.toNatClampNeg)), (4, .int (nI k22))]) hx hb dX4_places_54 rfl hl (by decide) rfl (fun ls hl => ?_)
          refine lv_iinc (v := (nI (k22 + 1))) (lv' := [(4, .int (nI (k22 + 1))), (3, .int (v3_22 ||| 0)), (0, .ref h), (1, .int x), (2, .int (pl x.toNatClampNeg))]) hx hb dX4_places_55 hl (k := 4) rfl (nI_1 (k22)) (by decide) rfl (fun ls hl => ?_)
          refine lv_goto (tgt := 22) hx hb dX4_places_58 (by decide) ?_
          have hR4 : sX4_places_22 an kd ask shw N Rn x k22 v3_22 wpl_22 = ((v3_22 ||| 0), (upd wpl_22 x.toNatClampNeg (nI k22))) := (by unfold sX4_places_22; rw [if_pos c42])
          exact ih22 (k22 + 1) hlt22 (by omega) _ _ (lp_next hacc22 hR4)  _ _ hP hD hS ls (lv_sub hl [2, 3, 4, 1, 0] rfl)
        refine lv_iconst (v := 1) hx hb dX4_places_45 (by decide) ?_
        refine lv_iload hx hb dX4_places_46 (lv_at hl 4 rfl) ?_
        refine lv_ishl hx hb dX4_places_48 ?_
        refine lv_goto (tgt := 53) hx hb dX4_places_49 (by decide) ?_
        refine lv_ior hx hb dX4_places_53 ?_
        refine lv_istore_n (lv' := [(3, .int (v3_22 ||| (1 <<< ((nI k22) &&& 31)))), (0, .ref h), (1, .int x), (2, .int (pl x.toNatClampNeg)), (4, .int (nI k22))]) hx hb dX4_places_54 rfl hl (by decide) rfl (fun ls hl => ?_)
        refine lv_iinc (v := (nI (k22 + 1))) (lv' := [(4, .int (nI (k22 + 1))), (3, .int (v3_22 ||| (1 <<< ((nI k22) &&& 31)))), (0, .ref h), (1, .int x), (2, .int (pl x.toNatClampNeg))]) hx hb dX4_places_55 hl (k := 4) rfl (nI_1 (k22)) (by decide) rfl (fun ls hl => ?_)
        refine lv_goto (tgt := 22) hx hb dX4_places_58 (by decide) ?_
        have hR5 : sX4_places_22 an kd ask shw N Rn x k22 v3_22 wpl_22 = ((v3_22 ||| (1 <<< ((nI k22) &&& 31))), (upd wpl_22 x.toNatClampNeg (nI k22))) := (by unfold sX4_places_22; rw [if_neg c42])
        exact ih22 (k22 + 1) hlt22 (by omega) _ _ (lp_next hacc22 hR5)  _ _ hP hD hS ls (lv_sub hl [2, 3, 4, 1, 0] rfl)
    exact loop22 (10 + 1) 0 (Nat.zero_le _) (by omega) _ _ rfl  _ _ hP hD hS ls (lv_sub hl [3, 4, 2, 1, 0] rfl)
  refine lv_iconst (v := (-1)) hx hb dX4_places_8 (by decide) ?_
  have hR6 : (fX4_places an kd pl ask shw N Rn x) = ((-1), pl) := (by unfold fX4_places; rw [if_pos c5])
  rw [hQ]
  exact W.iret (v := (-1)) hx hb hr (fun t ht hW => ⟨⟨_, (), rfl, (by show _ = _; rw [hR6]), (by show va_P D vwCl _ t.heap; rw [hR6, ht]; exact hP)⟩, hS.F ht⟩) hS.2.2 dX4_places_9

def fX4_tell (tr an : Int32) (kd pl : Nat → Int32) (x : Int32) : Int32 × Int32 := (if (fX4_isAnswer an x) = 0 then ((-1), tr) else (if (kd x.toNatClampNeg) = 1 then (((pl x.toNatClampNeg) + 100), ((31 * ((31 * tr) + 2)) + 1)) else (if (kd x.toNatClampNeg) = 2 then (((2 * (pl x.toNatClampNeg)) + 100), ((31 * ((31 * ((31 * ((31 * tr) + 3)) + 2)) + 1)) + 1)) else ((pl x.toNatClampNeg), ((31 * tr) + 1)))))
theorem q_X4_tell : yX4_tell.cls = RX4 ∧ yX4_tell.cls ≠ "java/lang/invoke/MethodHandle" ∧ yX4_tell.cls ≠ "java/lang/invoke/VarHandle" ∧ (parseMethodDescriptor yX4_tell.desc).map (fun d => d.parameters.length) = some 1 := by decide +kernel
set_option maxHeartbeats 4000000 in
set_option maxRecDepth 100000 in
theorem c_X4_tell (l : Launch) (D : va_G) (cI cS : ClassId) (h m1 m2 m3 m4 m5 m6 m7 m8 m9 m10 m11 m12 m13 : Nat) (lf tr an pn gr ax ra rp rg rd : Int32) (so sl ces kd pl wt xk xp xw wo su ask shw : Nat → Int32) (N : Nat) (x : Int32) (ha : an = nI N) (hN : N ≤ 6) : MMi l yX4_tell wsX4_tell { frames := 1, cells := 0, slots := 0, locals := 21 } D cI cS (wMo cI h m1 m2 m3 m4 m5 m6 m7 m8 m9 m10 m11 m12 m13 lf tr an pn gr ax ra rp rg rd so sl ces kd pl wt xk xp xw wo su ask shw) [.ref h, .int x] ((fX4_tell tr an kd pl x).1) (wMo cI h m1 m2 m3 m4 m5 m6 m7 m8 m9 m10 m11 m12 m13 lf ((fX4_tell tr an kd pl x).2) an pn gr ax ra rp rg rd so sl ces kd pl wt xk xp xw wo su ask shw) := by
  refine kEnterM (cc := cX4_tell) (maxL := 3) (ret := (some .int)) (by decide) rfl (Nat.le_of_ble_eq_true rfl) ?_
  intro p e s m below meth c ls Qf hQ hx hb hml hr hlocks hown hts hK hP hD hS hl
  have hown : s.vm.findClass RX4 = some m.cls := hown
  have hl : lv_has ls 3 [(0, .ref h), (1, .int x)] := hl
  generalize kA (wMo cI h m1 m2 m3 m4 m5 m6 m7 m8 m9 m10 m11 m12 m13 lf tr an pn gr ax ra rp rg rd so sl ces kd pl wt xk xp xw wo su ask shw) = A at hQ hD hS
  refine lv_aload_n hx hb dX4_tell_0 rfl (lv_at hl 0 rfl) ?_
  refine lv_iload_n hx hb dX4_tell_1 rfl (lv_at hl 1 rfl) ?_
  refine kPi (va_runV (As := [.int x]) (rest := []) ⟨hx, hb, hml, hown, hts⟩ (c_X4_isAnswer l D cI cS h m1 m2 m3 m4 m5 m6 m7 m8 m9 m10 m11 m12 m13 lf tr an pn gr ax ra rp rg rd so sl ces kd pl wt xk xp xw wo su ask shw x) (cwV 1 hts gX4_tell_X4_isAnswer rfl rfl rfl q_X4_isAnswer ⟨Nat.le_of_ble_eq_true rfl, Nat.le_of_ble_eq_true rfl⟩) (kPV hK hP [0, 1, 2, 3, 4, 5, 6, 7, 8, 9, 10, 11, 12, 13] rfl (va_recv hK.1 hP (ci := 4) (q0 := 0) rfl rfl) [.int x]) rfl rfl hl.1 rfl (lv_room (Nat.le_of_ble_eq_true rfl)) dX4_tell_2 ⟨Nat.zero_le _, Nat.zero_le _⟩) ?_
  refine lv_if_ne (tgt := 10) hx hb dX4_tell_5 (by decide) (fun c5 => ?_) (fun c5 => ?_)
  · skip
    refine lv_aload_n hx hb dX4_tell_10 rfl (lv_at hl 0 rfl) ?_
    refine va_get (D := D) (ci := 4) (v := .ref m5) (C := RX4) (T := TX4) (N := 23) hx hb hts (fun _ h => List.mem_cons_of_mem _ (List.mem_append_right _ h)) hown hK.1 hP 0 rfl rfl 9 (by decide) (hts (.fieldLink RX4 22 "LieNightsModel" "place" "[I") (List.mem_of_getElem? (i := 1) rfl)) (fun _ h9 => h9) rfl dX4_tell_11 ?_
    refine lv_iload_n hx hb dX4_tell_14 rfl (lv_at hl 1 rfl) ?_
    refine va_iald hx hb hK.1 hP 5 0 rfl rfl (mAns ha hN c5) dX4_tell_15 ?_
    refine lv_istore_n (lv' := [(2, .int (pl x.toNatClampNeg)), (0, .ref h), (1, .int x)]) hx hb dX4_tell_16 rfl hl (by decide) rfl (fun ls hl => ?_)
    refine lv_aload_n hx hb dX4_tell_17 rfl (lv_at hl 1 rfl) ?_
    refine va_get (D := D) (ci := 4) (v := .ref m4) (C := RX4) (T := TX4) (N := 23) hx hb hts (fun _ h => List.mem_cons_of_mem _ (List.mem_append_right _ h)) hown hK.1 hP 0 rfl rfl 8 (by decide) (hts (.fieldLink RX4 19 "LieNightsModel" "kind" "[I") (List.mem_of_getElem? (i := 2) rfl)) (fun _ h9 => h9) rfl dX4_tell_18 ?_
    refine lv_iload_n hx hb dX4_tell_21 rfl (lv_at hl 2 rfl) ?_
    refine va_iald hx hb hK.1 hP 4 0 rfl rfl (mAns ha hN c5) dX4_tell_22 ?_
    by_cases c23_1 : (kd x.toNatClampNeg) = 1
    · skip
      refine lv_lookup (tgt := 48) (off := 25) hx hb dX4_tell_23 (by decide) (by rw [c23_1]; decide) (by decide) ?_
      refine lv_aload_n hx hb dX4_tell_48 rfl (lv_at hl 1 rfl) ?_
      refine lv_iconst (v := 2) hx hb dX4_tell_49 (by decide) ?_
      refine kMv (wl' := (wMo cI h m1 m2 m3 m4 m5 m6 m7 m8 m9 m10 m11 m12 m13 lf ((31 * tr) + 2) an pn gr ax ra rp rg rd so sl ces kd pl wt xk xp xw wo su ask shw)) (wc := (wMo cI h m1 m2 m3 m4 m5 m6 m7 m8 m9 m10 m11 m12 m13 lf tr an pn gr ax ra rp rg rd so sl ces kd pl wt xk xp xw wo su ask shw)) (w1 := (wMo cI h m1 m2 m3 m4 m5 m6 m7 m8 m9 m10 m11 m12 m13 lf ((31 * tr) + 2) an pn gr ax ra rp rg rd so sl ces kd pl wt xk xp xw wo su ask shw)) hP hD hS [0, 1, 2, 3, 4, 5, 6, 7, 8, 9, 10, 11, 12, 13] rfl rfl rfl (va_runV (As := [.int 2]) (rest := []) ⟨hx, hb, hml, hown, hts⟩ (c_X4_begins l D cI cS h m1 m2 m3 m4 m5 m6 m7 m8 m9 m10 m11 m12 m13 lf tr an pn gr ax ra rp rg rd so sl ces kd pl wt xk xp xw wo su ask shw 2) (cwV 1 hts gX4_tell_X4_begins rfl rfl rfl q_X4_begins ⟨Nat.le_of_ble_eq_true rfl, Nat.le_of_ble_eq_true rfl⟩) (kMV hK hP hD [0, 1, 2, 3, 4, 5, 6, 7, 8, 9, 10, 11, 12, 13] rfl rfl (va_recv hK.1 hP (ci := 4) (q0 := 0) rfl rfl) [.int 2]) rfl rfl hl.1 rfl (lv_room (Nat.le_of_ble_eq_true rfl)) dX4_tell_50 ⟨Nat.zero_le _, Nat.zero_le _⟩) (fun H locs hP hD hS => ?_)
      obtain ⟨ztr50, hztr50⟩ : ∃ z : Int32, z = ((31 * tr) + 2) := ⟨_, rfl⟩
      rw [← hztr50] at hP hD
      refine lv_aload_n hx hb dX4_tell_53 rfl (lv_at hl 1 rfl) ?_
      refine lv_iconst (v := 1) hx hb dX4_tell_54 (by decide) ?_
      refine kMv (wl' := (wMo cI h m1 m2 m3 m4 m5 m6 m7 m8 m9 m10 m11 m12 m13 lf ((31 * ztr50) + 1) an pn gr ax ra rp rg rd so sl ces kd pl wt xk xp xw wo su ask shw)) (wc := (wMo cI h m1 m2 m3 m4 m5 m6 m7 m8 m9 m10 m11 m12 m13 lf ztr50 an pn gr ax ra rp rg rd so sl ces kd pl wt xk xp xw wo su ask shw)) (w1 := (wMo cI h m1 m2 m3 m4 m5 m6 m7 m8 m9 m10 m11 m12 m13 lf ((31 * ztr50) + 1) an pn gr ax ra rp rg rd so sl ces kd pl wt xk xp xw wo su ask shw)) hP hD hS [0, 1, 2, 3, 4, 5, 6, 7, 8, 9, 10, 11, 12, 13] rfl rfl rfl (va_runV (As := [.int 1]) (rest := []) ⟨hx, hb, hml, hown, hts⟩ (c_X4_begins l D cI cS h m1 m2 m3 m4 m5 m6 m7 m8 m9 m10 m11 m12 m13 lf ztr50 an pn gr ax ra rp rg rd so sl ces kd pl wt xk xp xw wo su ask shw 1) (cwV 1 hts gX4_tell_X4_begins rfl rfl rfl q_X4_begins ⟨Nat.le_of_ble_eq_true rfl, Nat.le_of_ble_eq_true rfl⟩) (kMV hK hP hD [0, 1, 2, 3, 4, 5, 6, 7, 8, 9, 10, 11, 12, 13] rfl rfl (va_recv hK.1 hP (ci := 4) (q0 := 0) rfl rfl) [.int 1]) rfl rfl hl.1 rfl (lv_room (Nat.le_of_ble_eq_true rfl)) dX4_tell_55 ⟨Nat.zero_le _, Nat.zero_le _⟩) (fun H locs hP hD hS => ?_)
      obtain ⟨ztr55, hztr55⟩ : ∃ z : Int32, z = ((31 * ztr50) + 1) := ⟨_, rfl⟩
      rw [← hztr55] at hP hD
      refine lv_iload_n hx hb dX4_tell_58 rfl (lv_at hl 0 rfl) ?_
      refine lv_bipush (v := 100) hx hb dX4_tell_59 (by decide) ?_
      refine lv_iadd hx hb dX4_tell_61 ?_
      subst hztr55
      subst hztr50
      have hR1 : (fX4_tell tr an kd pl x) = (((pl x.toNatClampNeg) + 100), ((31 * ((31 * tr) + 2)) + 1)) := (by unfold fX4_tell; rw [if_neg c5, if_pos c23_1])
      rw [hQ]
      exact W.iret (v := ((pl x.toNatClampNeg) + 100)) hx hb hr (fun t ht hW => ⟨⟨_, (), rfl, (by show _ = _; rw [hR1]), (by show va_P D vwCl _ t.heap; rw [hR1, ht]; exact hP)⟩, hS.F ht⟩) hS.2.2 dX4_tell_62
    by_cases c23_2 : (kd x.toNatClampNeg) = 2
    · skip
      refine lv_lookup (tgt := 63) (off := 40) hx hb dX4_tell_23 (by decide) (by rw [c23_2]; decide) (by decide) ?_
      refine lv_aload_n hx hb dX4_tell_63 rfl (lv_at hl 1 rfl) ?_
      refine lv_iconst (v := 3) hx hb dX4_tell_64 (by decide) ?_
      refine kMv (wl' := (wMo cI h m1 m2 m3 m4 m5 m6 m7 m8 m9 m10 m11 m12 m13 lf ((31 * tr) + 3) an pn gr ax ra rp rg rd so sl ces kd pl wt xk xp xw wo su ask shw)) (wc := (wMo cI h m1 m2 m3 m4 m5 m6 m7 m8 m9 m10 m11 m12 m13 lf tr an pn gr ax ra rp rg rd so sl ces kd pl wt xk xp xw wo su ask shw)) (w1 := (wMo cI h m1 m2 m3 m4 m5 m6 m7 m8 m9 m10 m11 m12 m13 lf ((31 * tr) + 3) an pn gr ax ra rp rg rd so sl ces kd pl wt xk xp xw wo su ask shw)) hP hD hS [0, 1, 2, 3, 4, 5, 6, 7, 8, 9, 10, 11, 12, 13] rfl rfl rfl (va_runV (As := [.int 3]) (rest := []) ⟨hx, hb, hml, hown, hts⟩ (c_X4_begins l D cI cS h m1 m2 m3 m4 m5 m6 m7 m8 m9 m10 m11 m12 m13 lf tr an pn gr ax ra rp rg rd so sl ces kd pl wt xk xp xw wo su ask shw 3) (cwV 1 hts gX4_tell_X4_begins rfl rfl rfl q_X4_begins ⟨Nat.le_of_ble_eq_true rfl, Nat.le_of_ble_eq_true rfl⟩) (kMV hK hP hD [0, 1, 2, 3, 4, 5, 6, 7, 8, 9, 10, 11, 12, 13] rfl rfl (va_recv hK.1 hP (ci := 4) (q0 := 0) rfl rfl) [.int 3]) rfl rfl hl.1 rfl (lv_room (Nat.le_of_ble_eq_true rfl)) dX4_tell_65 ⟨Nat.zero_le _, Nat.zero_le _⟩) (fun H locs hP hD hS => ?_)
      obtain ⟨ztr65, hztr65⟩ : ∃ z : Int32, z = ((31 * tr) + 3) := ⟨_, rfl⟩
      rw [← hztr65] at hP hD
      refine lv_aload_n hx hb dX4_tell_68 rfl (lv_at hl 1 rfl) ?_
      refine lv_iconst (v := 2) hx hb dX4_tell_69 (by decide) ?_
      refine kMv (wl' := (wMo cI h m1 m2 m3 m4 m5 m6 m7 m8 m9 m10 m11 m12 m13 lf ((31 * ztr65) + 2) an pn gr ax ra rp rg rd so sl ces kd pl wt xk xp xw wo su ask shw)) (wc := (wMo cI h m1 m2 m3 m4 m5 m6 m7 m8 m9 m10 m11 m12 m13 lf ztr65 an pn gr ax ra rp rg rd so sl ces kd pl wt xk xp xw wo su ask shw)) (w1 := (wMo cI h m1 m2 m3 m4 m5 m6 m7 m8 m9 m10 m11 m12 m13 lf ((31 * ztr65) + 2) an pn gr ax ra rp rg rd so sl ces kd pl wt xk xp xw wo su ask shw)) hP hD hS [0, 1, 2, 3, 4, 5, 6, 7, 8, 9, 10, 11, 12, 13] rfl rfl rfl (va_runV (As := [.int 2]) (rest := []) ⟨hx, hb, hml, hown, hts⟩ (c_X4_begins l D cI cS h m1 m2 m3 m4 m5 m6 m7 m8 m9 m10 m11 m12 m13 lf ztr65 an pn gr ax ra rp rg rd so sl ces kd pl wt xk xp xw wo su ask shw 2) (cwV 1 hts gX4_tell_X4_begins rfl rfl rfl q_X4_begins ⟨Nat.le_of_ble_eq_true rfl, Nat.le_of_ble_eq_true rfl⟩) (kMV hK hP hD [0, 1, 2, 3, 4, 5, 6, 7, 8, 9, 10, 11, 12, 13] rfl rfl (va_recv hK.1 hP (ci := 4) (q0 := 0) rfl rfl) [.int 2]) rfl rfl hl.1 rfl (lv_room (Nat.le_of_ble_eq_true rfl)) dX4_tell_70 ⟨Nat.zero_le _, Nat.zero_le _⟩) (fun H locs hP hD hS => ?_)
      obtain ⟨ztr70, hztr70⟩ : ∃ z : Int32, z = ((31 * ztr65) + 2) := ⟨_, rfl⟩
      rw [← hztr70] at hP hD
      refine lv_aload_n hx hb dX4_tell_73 rfl (lv_at hl 1 rfl) ?_
      refine lv_iconst (v := 1) hx hb dX4_tell_74 (by decide) ?_
      refine kMv (wl' := (wMo cI h m1 m2 m3 m4 m5 m6 m7 m8 m9 m10 m11 m12 m13 lf ((31 * ztr70) + 1) an pn gr ax ra rp rg rd so sl ces kd pl wt xk xp xw wo su ask shw)) (wc := (wMo cI h m1 m2 m3 m4 m5 m6 m7 m8 m9 m10 m11 m12 m13 lf ztr70 an pn gr ax ra rp rg rd so sl ces kd pl wt xk xp xw wo su ask shw)) (w1 := (wMo cI h m1 m2 m3 m4 m5 m6 m7 m8 m9 m10 m11 m12 m13 lf ((31 * ztr70) + 1) an pn gr ax ra rp rg rd so sl ces kd pl wt xk xp xw wo su ask shw)) hP hD hS [0, 1, 2, 3, 4, 5, 6, 7, 8, 9, 10, 11, 12, 13] rfl rfl rfl (va_runV (As := [.int 1]) (rest := []) ⟨hx, hb, hml, hown, hts⟩ (c_X4_begins l D cI cS h m1 m2 m3 m4 m5 m6 m7 m8 m9 m10 m11 m12 m13 lf ztr70 an pn gr ax ra rp rg rd so sl ces kd pl wt xk xp xw wo su ask shw 1) (cwV 1 hts gX4_tell_X4_begins rfl rfl rfl q_X4_begins ⟨Nat.le_of_ble_eq_true rfl, Nat.le_of_ble_eq_true rfl⟩) (kMV hK hP hD [0, 1, 2, 3, 4, 5, 6, 7, 8, 9, 10, 11, 12, 13] rfl rfl (va_recv hK.1 hP (ci := 4) (q0 := 0) rfl rfl) [.int 1]) rfl rfl hl.1 rfl (lv_room (Nat.le_of_ble_eq_true rfl)) dX4_tell_75 ⟨Nat.zero_le _, Nat.zero_le _⟩) (fun H locs hP hD hS => ?_)
      obtain ⟨ztr75, hztr75⟩ : ∃ z : Int32, z = ((31 * ztr70) + 1) := ⟨_, rfl⟩
      rw [← hztr75] at hP hD
      refine lv_aload_n hx hb dX4_tell_78 rfl (lv_at hl 1 rfl) ?_
      refine lv_iconst (v := 1) hx hb dX4_tell_79 (by decide) ?_
      refine kMv (wl' := (wMo cI h m1 m2 m3 m4 m5 m6 m7 m8 m9 m10 m11 m12 m13 lf ((31 * ztr75) + 1) an pn gr ax ra rp rg rd so sl ces kd pl wt xk xp xw wo su ask shw)) (wc := (wMo cI h m1 m2 m3 m4 m5 m6 m7 m8 m9 m10 m11 m12 m13 lf ztr75 an pn gr ax ra rp rg rd so sl ces kd pl wt xk xp xw wo su ask shw)) (w1 := (wMo cI h m1 m2 m3 m4 m5 m6 m7 m8 m9 m10 m11 m12 m13 lf ((31 * ztr75) + 1) an pn gr ax ra rp rg rd so sl ces kd pl wt xk xp xw wo su ask shw)) hP hD hS [0, 1, 2, 3, 4, 5, 6, 7, 8, 9, 10, 11, 12, 13] rfl rfl rfl (va_runV (As := [.int 1]) (rest := []) ⟨hx, hb, hml, hown, hts⟩ (c_X4_begins l D cI cS h m1 m2 m3 m4 m5 m6 m7 m8 m9 m10 m11 m12 m13 lf ztr75 an pn gr ax ra rp rg rd so sl ces kd pl wt xk xp xw wo su ask shw 1) (cwV 1 hts gX4_tell_X4_begins rfl rfl rfl q_X4_begins ⟨Nat.le_of_ble_eq_true rfl, Nat.le_of_ble_eq_true rfl⟩) (kMV hK hP hD [0, 1, 2, 3, 4, 5, 6, 7, 8, 9, 10, 11, 12, 13] rfl rfl (va_recv hK.1 hP (ci := 4) (q0 := 0) rfl rfl) [.int 1]) rfl rfl hl.1 rfl (lv_room (Nat.le_of_ble_eq_true rfl)) dX4_tell_80 ⟨Nat.zero_le _, Nat.zero_le _⟩) (fun H locs hP hD hS => ?_)
      obtain ⟨ztr80, hztr80⟩ : ∃ z : Int32, z = ((31 * ztr75) + 1) := ⟨_, rfl⟩
      rw [← hztr80] at hP hD
      refine lv_iconst (v := 2) hx hb dX4_tell_83 (by decide) ?_
      refine lv_iload_n hx hb dX4_tell_84 rfl (lv_at hl 0 rfl) ?_
      refine lv_imul hx hb dX4_tell_85 ?_
      refine lv_bipush (v := 100) hx hb dX4_tell_86 (by decide) ?_
      refine lv_iadd hx hb dX4_tell_88 ?_
      subst hztr80
      subst hztr75
      subst hztr70
      subst hztr65
      have hR2 : (fX4_tell tr an kd pl x) = (((2 * (pl x.toNatClampNeg)) + 100), ((31 * ((31 * ((31 * ((31 * tr) + 3)) + 2)) + 1)) + 1)) := (by unfold fX4_tell; rw [if_neg c5, if_neg c23_1, if_pos c23_2])
      rw [hQ]
      exact W.iret (v := ((2 * (pl x.toNatClampNeg)) + 100)) hx hb hr (fun t ht hW => ⟨⟨_, (), rfl, (by show _ = _; rw [hR2]), (by show va_P D vwCl _ t.heap; rw [hR2, ht]; exact hP)⟩, hS.F ht⟩) hS.2.2 dX4_tell_89
    refine lv_lookup (tgt := 90) (off := 67) hx hb dX4_tell_23 (by decide) (by rw [lv_osw (k := 1) (a := 1) c23_1 rfl, lv_osw (k := 2) (a := 2) c23_2 rfl]; rfl) (by decide) ?_
    refine lv_aload_n hx hb dX4_tell_90 rfl (lv_at hl 1 rfl) ?_
    refine lv_iconst (v := 1) hx hb dX4_tell_91 (by decide) ?_
    refine kMv (wl' := (wMo cI h m1 m2 m3 m4 m5 m6 m7 m8 m9 m10 m11 m12 m13 lf ((31 * tr) + 1) an pn gr ax ra rp rg rd so sl ces kd pl wt xk xp xw wo su ask shw)) (wc := (wMo cI h m1 m2 m3 m4 m5 m6 m7 m8 m9 m10 m11 m12 m13 lf tr an pn gr ax ra rp rg rd so sl ces kd pl wt xk xp xw wo su ask shw)) (w1 := (wMo cI h m1 m2 m3 m4 m5 m6 m7 m8 m9 m10 m11 m12 m13 lf ((31 * tr) + 1) an pn gr ax ra rp rg rd so sl ces kd pl wt xk xp xw wo su ask shw)) hP hD hS [0, 1, 2, 3, 4, 5, 6, 7, 8, 9, 10, 11, 12, 13] rfl rfl rfl (va_runV (As := [.int 1]) (rest := []) ⟨hx, hb, hml, hown, hts⟩ (c_X4_begins l D cI cS h m1 m2 m3 m4 m5 m6 m7 m8 m9 m10 m11 m12 m13 lf tr an pn gr ax ra rp rg rd so sl ces kd pl wt xk xp xw wo su ask shw 1) (cwV 1 hts gX4_tell_X4_begins rfl rfl rfl q_X4_begins ⟨Nat.le_of_ble_eq_true rfl, Nat.le_of_ble_eq_true rfl⟩) (kMV hK hP hD [0, 1, 2, 3, 4, 5, 6, 7, 8, 9, 10, 11, 12, 13] rfl rfl (va_recv hK.1 hP (ci := 4) (q0 := 0) rfl rfl) [.int 1]) rfl rfl hl.1 rfl (lv_room (Nat.le_of_ble_eq_true rfl)) dX4_tell_92 ⟨Nat.zero_le _, Nat.zero_le _⟩) (fun H locs hP hD hS => ?_)
    obtain ⟨ztr92, hztr92⟩ : ∃ z : Int32, z = ((31 * tr) + 1) := ⟨_, rfl⟩
    rw [← hztr92] at hP hD
    refine lv_iload_n hx hb dX4_tell_95 rfl (lv_at hl 0 rfl) ?_
    subst hztr92
    have hR3 : (fX4_tell tr an kd pl x) = ((pl x.toNatClampNeg), ((31 * tr) + 1)) := (by unfold fX4_tell; rw [if_neg c5, if_neg c23_1, if_neg c23_2])
    rw [hQ]
    exact W.iret (v := (pl x.toNatClampNeg)) hx hb hr (fun t ht hW => ⟨⟨_, (), rfl, (by show _ = _; rw [hR3]), (by show va_P D vwCl _ t.heap; rw [hR3, ht]; exact hP)⟩, hS.F ht⟩) hS.2.2 dX4_tell_96
  refine lv_iconst (v := (-1)) hx hb dX4_tell_8 (by decide) ?_
  have hR4 : (fX4_tell tr an kd pl x) = ((-1), tr) := (by unfold fX4_tell; rw [if_pos c5])
  rw [hQ]
  exact W.iret (v := (-1)) hx hb hr (fun t ht hW => ⟨⟨_, (), rfl, (by show _ = _; rw [hR4]), (by show va_P D vwCl _ t.heap; rw [hR4, ht]; exact hP)⟩, hS.F ht⟩) hS.2.2 dX4_tell_9

def fX4_whisper (tr an : Int32) (kd : Nat → Int32) (x : Int32) : Int32 × Int32 := (if (fX4_isAnswer an x) = 0 then ((-1), tr) else (if (kd x.toNatClampNeg) = 2 then (40, ((31 * tr) + 5)) else (x, ((31 * tr) + 4))))
theorem q_X4_whisper : yX4_whisper.cls = RX4 ∧ yX4_whisper.cls ≠ "java/lang/invoke/MethodHandle" ∧ yX4_whisper.cls ≠ "java/lang/invoke/VarHandle" ∧ (parseMethodDescriptor yX4_whisper.desc).map (fun d => d.parameters.length) = some 1 := by decide +kernel
set_option maxHeartbeats 4000000 in
set_option maxRecDepth 100000 in
theorem c_X4_whisper (l : Launch) (D : va_G) (cI cS : ClassId) (h m1 m2 m3 m4 m5 m6 m7 m8 m9 m10 m11 m12 m13 : Nat) (lf tr an pn gr ax ra rp rg rd : Int32) (so sl ces kd pl wt xk xp xw wo su ask shw : Nat → Int32) (N : Nat) (x : Int32) (ha : an = nI N) (hN : N ≤ 6) : MMi l yX4_whisper wsX4_whisper { frames := 1, cells := 0, slots := 0, locals := 21 } D cI cS (wMo cI h m1 m2 m3 m4 m5 m6 m7 m8 m9 m10 m11 m12 m13 lf tr an pn gr ax ra rp rg rd so sl ces kd pl wt xk xp xw wo su ask shw) [.ref h, .int x] ((fX4_whisper tr an kd x).1) (wMo cI h m1 m2 m3 m4 m5 m6 m7 m8 m9 m10 m11 m12 m13 lf ((fX4_whisper tr an kd x).2) an pn gr ax ra rp rg rd so sl ces kd pl wt xk xp xw wo su ask shw) := by
  refine kEnterM (cc := cX4_whisper) (maxL := 2) (ret := (some .int)) (by decide) rfl (Nat.le_of_ble_eq_true rfl) ?_
  intro p e s m below meth c ls Qf hQ hx hb hml hr hlocks hown hts hK hP hD hS hl
  have hown : s.vm.findClass RX4 = some m.cls := hown
  have hl : lv_has ls 2 [(0, .ref h), (1, .int x)] := hl
  generalize kA (wMo cI h m1 m2 m3 m4 m5 m6 m7 m8 m9 m10 m11 m12 m13 lf tr an pn gr ax ra rp rg rd so sl ces kd pl wt xk xp xw wo su ask shw) = A at hQ hD hS
  refine lv_aload_n hx hb dX4_whisper_0 rfl (lv_at hl 0 rfl) ?_
  refine lv_iload_n hx hb dX4_whisper_1 rfl (lv_at hl 1 rfl) ?_
  refine kPi (va_runV (As := [.int x]) (rest := []) ⟨hx, hb, hml, hown, hts⟩ (c_X4_isAnswer l D cI cS h m1 m2 m3 m4 m5 m6 m7 m8 m9 m10 m11 m12 m13 lf tr an pn gr ax ra rp rg rd so sl ces kd pl wt xk xp xw wo su ask shw x) (cwV 1 hts gX4_whisper_X4_isAnswer rfl rfl rfl q_X4_isAnswer ⟨Nat.le_of_ble_eq_true rfl, Nat.le_of_ble_eq_true rfl⟩) (kPV hK hP [0, 1, 2, 3, 4, 5, 6, 7, 8, 9, 10, 11, 12, 13] rfl (va_recv hK.1 hP (ci := 4) (q0 := 0) rfl rfl) [.int x]) rfl rfl hl.1 rfl (lv_room (Nat.le_of_ble_eq_true rfl)) dX4_whisper_2 ⟨Nat.zero_le _, Nat.zero_le _⟩) ?_
  refine lv_if_ne (tgt := 10) hx hb dX4_whisper_5 (by decide) (fun c5 => ?_) (fun c5 => ?_)
  · skip
    refine lv_aload_n hx hb dX4_whisper_10 rfl (lv_at hl 0 rfl) ?_
    refine lv_aload_n hx hb dX4_whisper_11 rfl (lv_at hl 0 rfl) ?_
    refine va_get (D := D) (ci := 4) (v := .ref m4) (C := RX4) (T := TX4) (N := 23) hx hb hts (fun _ h => List.mem_cons_of_mem _ (List.mem_append_right _ h)) hown hK.1 hP 0 rfl rfl 8 (by decide) (hts (.fieldLink RX4 19 "LieNightsModel" "kind" "[I") (List.mem_of_getElem? (i := 1) rfl)) (fun _ h9 => h9) rfl dX4_whisper_12 ?_
    refine lv_iload_n hx hb dX4_whisper_15 rfl (lv_at hl 1 rfl) ?_
    refine va_iald hx hb hK.1 hP 4 0 rfl rfl (mAns ha hN c5) dX4_whisper_16 ?_
    refine lv_iconst (v := 2) hx hb dX4_whisper_17 (by decide) ?_
    refine lv_icmp_ne (tgt := 25) hx hb dX4_whisper_18 (by decide) (fun c18 => ?_) (fun c18 => ?_)
    · skip
      refine lv_iconst (v := 4) hx hb dX4_whisper_25 (by decide) ?_
      refine kMv (wl' := (wMo cI h m1 m2 m3 m4 m5 m6 m7 m8 m9 m10 m11 m12 m13 lf ((31 * tr) + 4) an pn gr ax ra rp rg rd so sl ces kd pl wt xk xp xw wo su ask shw)) (wc := (wMo cI h m1 m2 m3 m4 m5 m6 m7 m8 m9 m10 m11 m12 m13 lf tr an pn gr ax ra rp rg rd so sl ces kd pl wt xk xp xw wo su ask shw)) (w1 := (wMo cI h m1 m2 m3 m4 m5 m6 m7 m8 m9 m10 m11 m12 m13 lf ((31 * tr) + 4) an pn gr ax ra rp rg rd so sl ces kd pl wt xk xp xw wo su ask shw)) hP hD hS [0, 1, 2, 3, 4, 5, 6, 7, 8, 9, 10, 11, 12, 13] rfl rfl rfl (va_runV (As := [.int 4]) (rest := []) ⟨hx, hb, hml, hown, hts⟩ (c_X4_begins l D cI cS h m1 m2 m3 m4 m5 m6 m7 m8 m9 m10 m11 m12 m13 lf tr an pn gr ax ra rp rg rd so sl ces kd pl wt xk xp xw wo su ask shw 4) (cwV 1 hts gX4_whisper_X4_begins rfl rfl rfl q_X4_begins ⟨Nat.le_of_ble_eq_true rfl, Nat.le_of_ble_eq_true rfl⟩) (kMV hK hP hD [0, 1, 2, 3, 4, 5, 6, 7, 8, 9, 10, 11, 12, 13] rfl rfl (va_recv hK.1 hP (ci := 4) (q0 := 0) rfl rfl) [.int 4]) rfl rfl hl.1 rfl (lv_room (Nat.le_of_ble_eq_true rfl)) dX4_whisper_26 ⟨Nat.zero_le _, Nat.zero_le _⟩) (fun H locs hP hD hS => ?_)
      obtain ⟨ztr26, hztr26⟩ : ∃ z : Int32, z = ((31 * tr) + 4) := ⟨_, rfl⟩
      rw [← hztr26] at hP hD
      refine lv_aload_n hx hb dX4_whisper_29 rfl (lv_at hl 0 rfl) ?_
      refine va_get (D := D) (ci := 4) (v := .ref m4) (C := RX4) (T := TX4) (N := 23) hx hb hts (fun _ h => List.mem_cons_of_mem _ (List.mem_append_right _ h)) hown hK.1 hP 0 rfl rfl 8 (by decide) (hts (.fieldLink RX4 19 "LieNightsModel" "kind" "[I") (List.mem_of_getElem? (i := 1) rfl)) (fun _ h9 => h9) rfl dX4_whisper_30 ?_
      refine lv_iload_n hx hb dX4_whisper_33 rfl (lv_at hl 1 rfl) ?_
      refine va_iald hx hb hK.1 hP 4 0 rfl rfl (mAns ha hN c5) dX4_whisper_34 ?_
      refine lv_iconst (v := 2) hx hb dX4_whisper_35 (by decide) ?_
      refine lv_icmp_ne (tgt := 44) hx hb dX4_whisper_36 (by decide) (fun c36 => ?_) (fun c36 => ?_)
      · skip
        refine lv_iload_n hx hb dX4_whisper_44 rfl (lv_at hl 1 rfl) ?_
        subst hztr26
        have hR1 : (fX4_whisper tr an kd x) = (x, ((31 * tr) + 4)) := (by unfold fX4_whisper; rw [if_neg c5, if_neg c18])
        rw [hQ]
        exact W.iret (v := x) hx hb hr (fun t ht hW => ⟨⟨_, (), rfl, (by show _ = _; rw [hR1]), (by show va_P D vwCl _ t.heap; rw [hR1, ht]; exact hP)⟩, hS.F ht⟩) hS.2.2 dX4_whisper_45
      exact absurd c36 c18
    refine lv_iconst (v := 5) hx hb dX4_whisper_21 (by decide) ?_
    refine lv_goto (tgt := 26) hx hb dX4_whisper_22 (by decide) ?_
    refine kMv (wl' := (wMo cI h m1 m2 m3 m4 m5 m6 m7 m8 m9 m10 m11 m12 m13 lf ((31 * tr) + 5) an pn gr ax ra rp rg rd so sl ces kd pl wt xk xp xw wo su ask shw)) (wc := (wMo cI h m1 m2 m3 m4 m5 m6 m7 m8 m9 m10 m11 m12 m13 lf tr an pn gr ax ra rp rg rd so sl ces kd pl wt xk xp xw wo su ask shw)) (w1 := (wMo cI h m1 m2 m3 m4 m5 m6 m7 m8 m9 m10 m11 m12 m13 lf ((31 * tr) + 5) an pn gr ax ra rp rg rd so sl ces kd pl wt xk xp xw wo su ask shw)) hP hD hS [0, 1, 2, 3, 4, 5, 6, 7, 8, 9, 10, 11, 12, 13] rfl rfl rfl (va_runV (As := [.int 5]) (rest := []) ⟨hx, hb, hml, hown, hts⟩ (c_X4_begins l D cI cS h m1 m2 m3 m4 m5 m6 m7 m8 m9 m10 m11 m12 m13 lf tr an pn gr ax ra rp rg rd so sl ces kd pl wt xk xp xw wo su ask shw 5) (cwV 1 hts gX4_whisper_X4_begins rfl rfl rfl q_X4_begins ⟨Nat.le_of_ble_eq_true rfl, Nat.le_of_ble_eq_true rfl⟩) (kMV hK hP hD [0, 1, 2, 3, 4, 5, 6, 7, 8, 9, 10, 11, 12, 13] rfl rfl (va_recv hK.1 hP (ci := 4) (q0 := 0) rfl rfl) [.int 5]) rfl rfl hl.1 rfl (lv_room (Nat.le_of_ble_eq_true rfl)) dX4_whisper_26 ⟨Nat.zero_le _, Nat.zero_le _⟩) (fun H locs hP hD hS => ?_)
    obtain ⟨ztr26, hztr26⟩ : ∃ z : Int32, z = ((31 * tr) + 5) := ⟨_, rfl⟩
    rw [← hztr26] at hP hD
    refine lv_aload_n hx hb dX4_whisper_29 rfl (lv_at hl 0 rfl) ?_
    refine va_get (D := D) (ci := 4) (v := .ref m4) (C := RX4) (T := TX4) (N := 23) hx hb hts (fun _ h => List.mem_cons_of_mem _ (List.mem_append_right _ h)) hown hK.1 hP 0 rfl rfl 8 (by decide) (hts (.fieldLink RX4 19 "LieNightsModel" "kind" "[I") (List.mem_of_getElem? (i := 1) rfl)) (fun _ h9 => h9) rfl dX4_whisper_30 ?_
    refine lv_iload_n hx hb dX4_whisper_33 rfl (lv_at hl 1 rfl) ?_
    refine va_iald hx hb hK.1 hP 4 0 rfl rfl (mAns ha hN c5) dX4_whisper_34 ?_
    refine lv_iconst (v := 2) hx hb dX4_whisper_35 (by decide) ?_
    refine lv_icmp_ne (tgt := 44) hx hb dX4_whisper_36 (by decide) (fun c36 => ?_) (fun c36 => ?_)
    · exact absurd c18 c36
    refine lv_bipush (v := 40) hx hb dX4_whisper_39 (by decide) ?_
    refine lv_goto (tgt := 45) hx hb dX4_whisper_41 (by decide) ?_
    subst hztr26
    have hR2 : (fX4_whisper tr an kd x) = (40, ((31 * tr) + 5)) := (by unfold fX4_whisper; rw [if_neg c5, if_pos c18])
    rw [hQ]
    exact W.iret (v := 40) hx hb hr (fun t ht hW => ⟨⟨_, (), rfl, (by show _ = _; rw [hR2]), (by show va_P D vwCl _ t.heap; rw [hR2, ht]; exact hP)⟩, hS.F ht⟩) hS.2.2 dX4_whisper_45
  refine lv_iconst (v := (-1)) hx hb dX4_whisper_8 (by decide) ?_
  have hR3 : (fX4_whisper tr an kd x) = ((-1), tr) := (by unfold fX4_whisper; rw [if_pos c5])
  rw [hQ]
  exact W.iret (v := (-1)) hx hb hr (fun t ht hW => ⟨⟨_, (), rfl, (by show _ = _; rw [hR3]), (by show va_P D vwCl _ t.heap; rw [hR3, ht]; exact hP)⟩, hS.F ht⟩) hS.2.2 dX4_whisper_9

def fX4_as (an : Int32) (kd : Nat → Int32) (x ki : Int32) : Int32 × Int32 := (if (fX4_isAnswer an x) = 0 then ((-1), 0) else (if (fX4_within ki 0 2) = 0 then ((-2), 0) else (if (kd x.toNatClampNeg) < ki then (((-10) - 2), 2) else (1, 0))))
theorem q_X4_as : yX4_as.cls = RX4 ∧ yX4_as.cls ≠ "java/lang/invoke/MethodHandle" ∧ yX4_as.cls ≠ "java/lang/invoke/VarHandle" ∧ (parseMethodDescriptor yX4_as.desc).map (fun d => d.parameters.length) = some 2 := by decide +kernel
set_option maxHeartbeats 4000000 in
set_option maxRecDepth 100000 in
theorem c_X4_as (l : Launch) (D : va_G) (cI cS : ClassId) (h m1 m2 m3 m4 m5 m6 m7 m8 m9 m10 m11 m12 m13 : Nat) (lf tr an pn gr ax ra rp rg rd : Int32) (so sl ces kd pl wt xk xp xw wo su ask shw : Nat → Int32) (N : Nat) (x ki : Int32) (ha : an = nI N) (hN : N ≤ 6) : MMi l yX4_as wsX4_as { frames := 1, cells := 0, slots := 0, locals := 22 } D cI cS (wMo cI h m1 m2 m3 m4 m5 m6 m7 m8 m9 m10 m11 m12 m13 lf tr an pn gr ax ra rp rg rd so sl ces kd pl wt xk xp xw wo su ask shw) [.ref h, .int x, .int ki] ((fX4_as an kd x ki).1) (wMo cI h m1 m2 m3 m4 m5 m6 m7 m8 m9 m10 m11 m12 m13 ((fX4_as an kd x ki).2) tr an pn gr ax ra rp rg rd so sl ces kd pl wt xk xp xw wo su ask shw) := by
  refine kEnterM (cc := cX4_as) (maxL := 3) (ret := (some .int)) (by decide) rfl (Nat.le_of_ble_eq_true rfl) ?_
  intro p e s m below meth c ls Qf hQ hx hb hml hr hlocks hown hts hK hP hD hS hl
  have hown : s.vm.findClass RX4 = some m.cls := hown
  have hl : lv_has ls 3 [(0, .ref h), (1, .int x), (2, .int ki)] := hl
  generalize kA (wMo cI h m1 m2 m3 m4 m5 m6 m7 m8 m9 m10 m11 m12 m13 lf tr an pn gr ax ra rp rg rd so sl ces kd pl wt xk xp xw wo su ask shw) = A at hQ hD hS
  refine lv_aload_n hx hb dX4_as_0 rfl (lv_at hl 0 rfl) ?_
  refine lv_iconst (v := 0) hx hb dX4_as_1 (by decide) ?_
  refine va_put (D := D) (ci := 4) (v := .int 0) (ty := tyX4 0) (C := RX4) (T := TX4) (N := 23) hx hb hts (fun _ h => List.mem_cons_of_mem _ (List.mem_append_right _ h)) tyX4 tyX4_ok nmX4 hown hK.1 hP hD hS 0 rfl rfl 0 (by decide) (hts (.fieldLink RX4 49 "LieNightsModel" "fault" "I") (List.mem_of_getElem? (i := 1) rfl)) (fun _ h9 => h9) rfl (tyX4_ok 0 (by decide)) rfl rfl (Nat.le_of_ble_eq_true rfl) dX4_as_2 (fun H locs hP hD hS => ?_)
  have hP : va_P D vwCl (wMo cI h m1 m2 m3 m4 m5 m6 m7 m8 m9 m10 m11 m12 m13 0 tr an pn gr ax ra rp rg rd so sl ces kd pl wt xk xp xw wo su ask shw) H := hP
  have hD : va_D A (wMo cI h m1 m2 m3 m4 m5 m6 m7 m8 m9 m10 m11 m12 m13 0 tr an pn gr ax ra rp rg rd so sl ces kd pl wt xk xp xw wo su ask shw) := hD
  refine lv_aload_n hx hb dX4_as_5 rfl (lv_at hl 0 rfl) ?_
  refine lv_iload_n hx hb dX4_as_6 rfl (lv_at hl 1 rfl) ?_
  refine kPi (va_runV (As := [.int x]) (rest := []) ⟨hx, hb, hml, hown, hts⟩ (c_X4_isAnswer l D cI cS h m1 m2 m3 m4 m5 m6 m7 m8 m9 m10 m11 m12 m13 0 tr an pn gr ax ra rp rg rd so sl ces kd pl wt xk xp xw wo su ask shw x) (cwV 1 hts gX4_as_X4_isAnswer rfl rfl rfl q_X4_isAnswer ⟨Nat.le_of_ble_eq_true rfl, Nat.le_of_ble_eq_true rfl⟩) (kPV hK hP [0, 1, 2, 3, 4, 5, 6, 7, 8, 9, 10, 11, 12, 13] rfl (va_recv hK.1 hP (ci := 4) (q0 := 0) rfl rfl) [.int x]) rfl rfl hl.1 rfl (lv_room (Nat.le_of_ble_eq_true rfl)) dX4_as_7 ⟨Nat.zero_le _, Nat.zero_le _⟩) ?_
  refine lv_if_ne (tgt := 15) hx hb dX4_as_10 (by decide) (fun c10 => ?_) (fun c10 => ?_)
  · skip
    refine lv_iload_n hx hb dX4_as_15 rfl (lv_at hl 2 rfl) ?_
    refine lv_iconst (v := 0) hx hb dX4_as_16 (by decide) ?_
    refine lv_iconst (v := 2) hx hb dX4_as_17 (by decide) ?_
    refine kPi (va_runS (As := [.int ki, .int 0, .int 2]) (rest := []) ⟨hx, hb, hml, hown, hts⟩ (c_X4_within l D cI cS ki 0 2) (va_cwS 3 hts gX4_as_X4_within rfl rfl rfl q_X4_within.2 ⟨Nat.le_of_ble_eq_true rfl, Nat.le_of_ble_eq_true rfl⟩) (kPS hK hP [] rfl [.int ki, .int 0, .int 2]) rfl rfl hl.1 rfl (lv_room (Nat.le_of_ble_eq_true rfl)) dX4_as_18 ⟨Nat.zero_le _, Nat.zero_le _⟩) ?_
    refine lv_if_ne (tgt := 27) hx hb dX4_as_21 (by decide) (fun c21 => ?_) (fun c21 => ?_)
    · skip
      refine lv_aload_n hx hb dX4_as_27 rfl (lv_at hl 0 rfl) ?_
      refine va_get (D := D) (ci := 4) (v := .ref m4) (C := RX4) (T := TX4) (N := 23) hx hb hts (fun _ h => List.mem_cons_of_mem _ (List.mem_append_right _ h)) hown hK.1 hP 0 rfl rfl 8 (by decide) (hts (.fieldLink RX4 19 "LieNightsModel" "kind" "[I") (List.mem_of_getElem? (i := 2) rfl)) (fun _ h9 => h9) rfl dX4_as_28 ?_
      refine lv_iload_n hx hb dX4_as_31 rfl (lv_at hl 1 rfl) ?_
      refine va_iald hx hb hK.1 hP 4 0 rfl rfl (mAns ha hN c10) dX4_as_32 ?_
      refine lv_iload_n hx hb dX4_as_33 rfl (lv_at hl 2 rfl) ?_
      refine lv_icmp_lt (tgt := 41) hx hb dX4_as_34 (by decide) (fun c34 => ?_) (fun c34 => ?_)
      · skip
        refine lv_aload_n hx hb dX4_as_41 rfl (lv_at hl 0 rfl) ?_
        refine lv_iconst (v := 2) hx hb dX4_as_42 (by decide) ?_
        refine kMi (wl' := (wMo cI h m1 m2 m3 m4 m5 m6 m7 m8 m9 m10 m11 m12 m13 2 tr an pn gr ax ra rp rg rd so sl ces kd pl wt xk xp xw wo su ask shw)) (wc := (wMo cI h m1 m2 m3 m4 m5 m6 m7 m8 m9 m10 m11 m12 m13 0 tr an pn gr ax ra rp rg rd so sl ces kd pl wt xk xp xw wo su ask shw)) (w1 := (wMo cI h m1 m2 m3 m4 m5 m6 m7 m8 m9 m10 m11 m12 m13 2 tr an pn gr ax ra rp rg rd so sl ces kd pl wt xk xp xw wo su ask shw)) hP hD hS [0, 1, 2, 3, 4, 5, 6, 7, 8, 9, 10, 11, 12, 13] rfl rfl rfl (va_runV (As := [.int 2]) (rest := []) ⟨hx, hb, hml, hown, hts⟩ (c_X4_fails l D cI cS h m1 m2 m3 m4 m5 m6 m7 m8 m9 m10 m11 m12 m13 0 tr an pn gr ax ra rp rg rd so sl ces kd pl wt xk xp xw wo su ask shw 2) (cwV 1 hts gX4_as_X4_fails rfl rfl rfl q_X4_fails ⟨Nat.le_of_ble_eq_true rfl, Nat.le_of_ble_eq_true rfl⟩) (kMV hK hP hD [0, 1, 2, 3, 4, 5, 6, 7, 8, 9, 10, 11, 12, 13] rfl rfl (va_recv hK.1 hP (ci := 4) (q0 := 0) rfl rfl) [.int 2]) rfl rfl hl.1 rfl (lv_room (Nat.le_of_ble_eq_true rfl)) dX4_as_43 ⟨Nat.zero_le _, Nat.zero_le _⟩) (fun H locs hP hD hS => ?_)
        have hR1 : (fX4_as an kd x ki) = (((-10) - 2), 2) := (by unfold fX4_as; rw [if_neg c10, if_neg c21, if_pos c34])
        rw [hQ]
        exact W.iret (v := ((-10) - 2)) hx hb hr (fun t ht hW => ⟨⟨_, (), rfl, (by show _ = _; rw [hR1]), (by show va_P D vwCl _ t.heap; rw [hR1, ht]; exact hP)⟩, hS.F ht⟩) hS.2.2 dX4_as_46
      refine lv_iconst (v := 1) hx hb dX4_as_37 (by decide) ?_
      refine lv_goto (tgt := 46) hx hb dX4_as_38 (by decide) ?_
      have hR2 : (fX4_as an kd x ki) = (1, 0) := (by unfold fX4_as; rw [if_neg c10, if_neg c21, if_neg c34])
      rw [hQ]
      exact W.iret (v := 1) hx hb hr (fun t ht hW => ⟨⟨_, (), rfl, (by show _ = _; rw [hR2]), (by show va_P D vwCl _ t.heap; rw [hR2, ht]; exact hP)⟩, hS.F ht⟩) hS.2.2 dX4_as_46
    refine lv_bipush (v := (-2)) hx hb dX4_as_24 (by decide) ?_
    have hR3 : (fX4_as an kd x ki) = ((-2), 0) := (by unfold fX4_as; rw [if_neg c10, if_pos c21])
    rw [hQ]
    exact W.iret (v := (-2)) hx hb hr (fun t ht hW => ⟨⟨_, (), rfl, (by show _ = _; rw [hR3]), (by show va_P D vwCl _ t.heap; rw [hR3, ht]; exact hP)⟩, hS.F ht⟩) hS.2.2 dX4_as_26
  refine lv_iconst (v := (-1)) hx hb dX4_as_13 (by decide) ?_
  have hR4 : (fX4_as an kd x ki) = ((-1), 0) := (by unfold fX4_as; rw [if_pos c10])
  rw [hQ]
  exact W.iret (v := (-1)) hx hb hr (fun t ht hW => ⟨⟨_, (), rfl, (by show _ = _; rw [hR4]), (by show va_P D vwCl _ t.heap; rw [hR4, ht]; exact hP)⟩, hS.F ht⟩) hS.2.2 dX4_as_14

def fX4_trace (tr : Int32) : Int32 := tr
theorem q_X4_trace : yX4_trace.cls = RX4 ∧ yX4_trace.cls ≠ "java/lang/invoke/MethodHandle" ∧ yX4_trace.cls ≠ "java/lang/invoke/VarHandle" ∧ (parseMethodDescriptor yX4_trace.desc).map (fun d => d.parameters.length) = some 0 := by decide +kernel
set_option maxHeartbeats 4000000 in
set_option maxRecDepth 100000 in
theorem c_X4_trace (l : Launch) (D : va_G) (cI cS : ClassId) (h m1 m2 m3 m4 m5 m6 m7 m8 m9 m10 m11 m12 m13 : Nat) (lf tr an pn gr ax ra rp rg rd : Int32) (so sl ces kd pl wt xk xp xw wo su ask shw : Nat → Int32)  : PMi l yX4_trace wsX4_trace { frames := 0, cells := 0, slots := 0, locals := 0 } D cI cS (wMo cI h m1 m2 m3 m4 m5 m6 m7 m8 m9 m10 m11 m12 m13 lf tr an pn gr ax ra rp rg rd so sl ces kd pl wt xk xp xw wo su ask shw) [.ref h] (fX4_trace tr) := by
  refine kEnter (cc := cX4_trace) (maxL := 1) (ret := (some .int)) (by decide) rfl (Nat.le_of_ble_eq_true rfl) ?_
  intro p e s m below meth c ls Qf hQ hx hb hml hr hlocks hown hts hK hP hl
  have hown : s.vm.findClass RX4 = some m.cls := hown
  have hl : lv_has ls 1 [(0, .ref h)] := hl
  refine lv_aload_n hx hb dX4_trace_0 rfl (lv_at hl 0 rfl) ?_
  refine va_get (D := D) (ci := 4) (v := .int tr) (C := RX4) (T := TX4) (N := 23) hx hb hts (fun _ h => List.mem_cons_of_mem _ (List.mem_append_right _ h)) hown hK.1 hP 0 rfl rfl 1 (by decide) (hts (.fieldLink RX4 162 "LieNightsModel" "trace" "I") (List.mem_of_getElem? (i := 1) rfl)) (fun _ h9 => h9) rfl dX4_trace_1 ?_
  have hR1 : (fX4_trace tr) = tr := rfl
  rw [hQ]
  exact W.iret (v := tr) hx hb hr (fun t ht hW => ⟨_, rfl, hR1.symm, ht⟩) (fun q h => by cases h) dX4_trace_4

def fX4_fault (lf : Int32) : Int32 := lf
theorem q_X4_fault : yX4_fault.cls = RX4 ∧ yX4_fault.cls ≠ "java/lang/invoke/MethodHandle" ∧ yX4_fault.cls ≠ "java/lang/invoke/VarHandle" ∧ (parseMethodDescriptor yX4_fault.desc).map (fun d => d.parameters.length) = some 0 := by decide +kernel
set_option maxHeartbeats 4000000 in
set_option maxRecDepth 100000 in
theorem c_X4_fault (l : Launch) (D : va_G) (cI cS : ClassId) (h m1 m2 m3 m4 m5 m6 m7 m8 m9 m10 m11 m12 m13 : Nat) (lf tr an pn gr ax ra rp rg rd : Int32) (so sl ces kd pl wt xk xp xw wo su ask shw : Nat → Int32)  : PMi l yX4_fault wsX4_fault { frames := 0, cells := 0, slots := 0, locals := 0 } D cI cS (wMo cI h m1 m2 m3 m4 m5 m6 m7 m8 m9 m10 m11 m12 m13 lf tr an pn gr ax ra rp rg rd so sl ces kd pl wt xk xp xw wo su ask shw) [.ref h] (fX4_fault lf) := by
  refine kEnter (cc := cX4_fault) (maxL := 1) (ret := (some .int)) (by decide) rfl (Nat.le_of_ble_eq_true rfl) ?_
  intro p e s m below meth c ls Qf hQ hx hb hml hr hlocks hown hts hK hP hl
  have hown : s.vm.findClass RX4 = some m.cls := hown
  have hl : lv_has ls 1 [(0, .ref h)] := hl
  refine lv_aload_n hx hb dX4_fault_0 rfl (lv_at hl 0 rfl) ?_
  refine va_get (D := D) (ci := 4) (v := .int lf) (C := RX4) (T := TX4) (N := 23) hx hb hts (fun _ h => List.mem_cons_of_mem _ (List.mem_append_right _ h)) hown hK.1 hP 0 rfl rfl 0 (by decide) (hts (.fieldLink RX4 49 "LieNightsModel" "fault" "I") (List.mem_of_getElem? (i := 1) rfl)) (fun _ h9 => h9) rfl dX4_fault_1 ?_
  have hR1 : (fX4_fault lf) = lf := rfl
  rw [hQ]
  exact W.iret (v := lf) hx hb hr (fun t ht hW => ⟨_, rfl, hR1.symm, ht⟩) (fun q h => by cases h) dX4_fault_4

def fX4_many (an pn gr rd wh : Int32) : Int32 := (if wh = 0 then an else (if wh = 1 then pn else (if wh = 2 then gr else (if wh = 3 then rd else (-2)))))
theorem q_X4_many : yX4_many.cls = RX4 ∧ yX4_many.cls ≠ "java/lang/invoke/MethodHandle" ∧ yX4_many.cls ≠ "java/lang/invoke/VarHandle" ∧ (parseMethodDescriptor yX4_many.desc).map (fun d => d.parameters.length) = some 1 := by decide +kernel
set_option maxHeartbeats 4000000 in
set_option maxRecDepth 100000 in
theorem c_X4_many (l : Launch) (D : va_G) (cI cS : ClassId) (h m1 m2 m3 m4 m5 m6 m7 m8 m9 m10 m11 m12 m13 : Nat) (lf tr an pn gr ax ra rp rg rd : Int32) (so sl ces kd pl wt xk xp xw wo su ask shw : Nat → Int32) (wh : Int32)  : PMi l yX4_many wsX4_many { frames := 0, cells := 0, slots := 0, locals := 0 } D cI cS (wMo cI h m1 m2 m3 m4 m5 m6 m7 m8 m9 m10 m11 m12 m13 lf tr an pn gr ax ra rp rg rd so sl ces kd pl wt xk xp xw wo su ask shw) [.ref h, .int wh] (fX4_many an pn gr rd wh) := by
  refine kEnter (cc := cX4_many) (maxL := 2) (ret := (some .int)) (by decide) rfl (Nat.le_of_ble_eq_true rfl) ?_
  intro p e s m below meth c ls Qf hQ hx hb hml hr hlocks hown hts hK hP hl
  have hown : s.vm.findClass RX4 = some m.cls := hown
  have hl : lv_has ls 2 [(0, .ref h), (1, .int wh)] := hl
  refine lv_iload_n hx hb dX4_many_0 rfl (lv_at hl 1 rfl) ?_
  refine lv_if_ne (tgt := 11) hx hb dX4_many_1 (by decide) (fun c1 => ?_) (fun c1 => ?_)
  · skip
    refine lv_iload_n hx hb dX4_many_11 rfl (lv_at hl 1 rfl) ?_
    refine lv_iconst (v := 1) hx hb dX4_many_12 (by decide) ?_
    refine lv_icmp_ne (tgt := 23) hx hb dX4_many_13 (by decide) (fun c13 => ?_) (fun c13 => ?_)
    · skip
      refine lv_iload_n hx hb dX4_many_23 rfl (lv_at hl 1 rfl) ?_
      refine lv_iconst (v := 2) hx hb dX4_many_24 (by decide) ?_
      refine lv_icmp_ne (tgt := 35) hx hb dX4_many_25 (by decide) (fun c25 => ?_) (fun c25 => ?_)
      · skip
        refine lv_iload_n hx hb dX4_many_35 rfl (lv_at hl 1 rfl) ?_
        refine lv_iconst (v := 3) hx hb dX4_many_36 (by decide) ?_
        refine lv_icmp_ne (tgt := 47) hx hb dX4_many_37 (by decide) (fun c37 => ?_) (fun c37 => ?_)
        · skip
          refine lv_bipush (v := (-2)) hx hb dX4_many_47 (by decide) ?_
          have hR1 : (fX4_many an pn gr rd wh) = (-2) := (by unfold fX4_many; rw [if_neg c1, if_neg c13, if_neg c25, if_neg c37])
          rw [hQ]
          exact W.iret (v := (-2)) hx hb hr (fun t ht hW => ⟨_, rfl, hR1.symm, ht⟩) (fun q h => by cases h) dX4_many_49
        refine lv_aload_n hx hb dX4_many_40 rfl (lv_at hl 0 rfl) ?_
        refine va_get (D := D) (ci := 4) (v := .int rd) (C := RX4) (T := TX4) (N := 23) hx hb hts (fun _ h => List.mem_cons_of_mem _ (List.mem_append_right _ h)) hown hK.1 hP 0 rfl rfl 20 (by decide) (hts (.fieldLink RX4 98 "LieNightsModel" "readings" "I") (List.mem_of_getElem? (i := 4) rfl)) (fun _ h9 => h9) rfl dX4_many_41 ?_
        refine lv_goto (tgt := 49) hx hb dX4_many_44 (by decide) ?_
        have hR2 : (fX4_many an pn gr rd wh) = rd := (by unfold fX4_many; rw [if_neg c1, if_neg c13, if_neg c25, if_pos c37])
        rw [hQ]
        exact W.iret (v := rd) hx hb hr (fun t ht hW => ⟨_, rfl, hR2.symm, ht⟩) (fun q h => by cases h) dX4_many_49
      refine lv_aload_n hx hb dX4_many_28 rfl (lv_at hl 0 rfl) ?_
      refine va_get (D := D) (ci := 4) (v := .int gr) (C := RX4) (T := TX4) (N := 23) hx hb hts (fun _ h => List.mem_cons_of_mem _ (List.mem_append_right _ h)) hown hK.1 hP 0 rfl rfl 7 (by decide) (hts (.fieldLink RX4 89 "LieNightsModel" "growth" "I") (List.mem_of_getElem? (i := 3) rfl)) (fun _ h9 => h9) rfl dX4_many_29 ?_
      refine lv_goto (tgt := 49) hx hb dX4_many_32 (by decide) ?_
      have hR3 : (fX4_many an pn gr rd wh) = gr := (by unfold fX4_many; rw [if_neg c1, if_neg c13, if_pos c25])
      rw [hQ]
      exact W.iret (v := gr) hx hb hr (fun t ht hW => ⟨_, rfl, hR3.symm, ht⟩) (fun q h => by cases h) dX4_many_49
    refine lv_aload_n hx hb dX4_many_16 rfl (lv_at hl 0 rfl) ?_
    refine va_get (D := D) (ci := 4) (v := .int pn) (C := RX4) (T := TX4) (N := 23) hx hb hts (fun _ h => List.mem_cons_of_mem _ (List.mem_append_right _ h)) hown hK.1 hP 0 rfl rfl 6 (by decide) (hts (.fieldLink RX4 95 "LieNightsModel" "pillars" "I") (List.mem_of_getElem? (i := 2) rfl)) (fun _ h9 => h9) rfl dX4_many_17 ?_
    refine lv_goto (tgt := 49) hx hb dX4_many_20 (by decide) ?_
    have hR4 : (fX4_many an pn gr rd wh) = pn := (by unfold fX4_many; rw [if_neg c1, if_pos c13])
    rw [hQ]
    exact W.iret (v := pn) hx hb hr (fun t ht hW => ⟨_, rfl, hR4.symm, ht⟩) (fun q h => by cases h) dX4_many_49
  refine lv_aload_n hx hb dX4_many_4 rfl (lv_at hl 0 rfl) ?_
  refine va_get (D := D) (ci := 4) (v := .int an) (C := RX4) (T := TX4) (N := 23) hx hb hts (fun _ h => List.mem_cons_of_mem _ (List.mem_append_right _ h)) hown hK.1 hP 0 rfl rfl 5 (by decide) (hts (.fieldLink RX4 59 "LieNightsModel" "answers" "I") (List.mem_of_getElem? (i := 1) rfl)) (fun _ h9 => h9) rfl dX4_many_5 ?_
  refine lv_goto (tgt := 49) hx hb dX4_many_8 (by decide) ?_
  have hR5 : (fX4_many an pn gr rd wh) = an := (by unfold fX4_many; rw [if_pos c1])
  rw [hQ]
  exact W.iret (v := an) hx hb hr (fun t ht hW => ⟨_, rfl, hR5.symm, ht⟩) (fun q h => by cases h) dX4_many_49
