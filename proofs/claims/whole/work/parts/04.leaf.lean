def fX3_within (v mo : Int32) : Int32 := (if v < 0 then 0 else (if (mo : Int32) < v then 0 else 1))
theorem q_X3_within : yX3_within.cls = RX3 ∧ yX3_within.cls ≠ "java/lang/invoke/MethodHandle" ∧ yX3_within.cls ≠ "java/lang/invoke/VarHandle" ∧ (parseMethodDescriptor yX3_within.desc).map (fun d => d.parameters.length) = some 2 := by decide +kernel
set_option maxHeartbeats 4000000 in
set_option maxRecDepth 100000 in
theorem c_X3_within (l : Launch) (D : va_G) (cI cS : ClassId) (v mo : Int32)  : PMi l yX3_within wsX3_within { frames := 0, cells := 0, slots := 0, locals := 0 } D cI cS [] [.int v, .int mo] (fX3_within v mo) := by
  refine kEnter (cc := cX3_within) (maxL := 2) (ret := (some .boolean)) (by decide) rfl (Nat.le_of_ble_eq_true rfl) ?_
  intro p e s m below meth c ls Qf hQ hx hb hml hr hlocks hown hts hK hP hl
  have hown : s.vm.findClass RX3 = some m.cls := hown
  have hl : lv_has ls 2 [(0, .int v), (1, .int mo)] := hl
  refine lv_iload_n hx hb dX3_within_0 rfl (lv_at hl 0 rfl) ?_
  refine lv_if_lt (tgt := 13) hx hb dX3_within_1 (by decide) (fun c1 => ?_) (fun c1 => ?_)
  · skip
    refine lv_iconst (v := 0) hx hb dX3_within_13 (by decide) ?_
    have hR1 : (fX3_within v mo) = 0 := (by unfold fX3_within; rw [if_pos c1])
    rw [hQ]
    exact W.zret (v := 0) (ty := .boolean) hx hb hr rfl (fun t ht hW => ⟨_, rfl, hR1.symm, ht⟩) (fun q h => by cases h) dX3_within_14
  refine lv_iload_n hx hb dX3_within_4 rfl (lv_at hl 0 rfl) ?_
  refine lv_iload_n hx hb dX3_within_5 rfl (lv_at hl 1 rfl) ?_
  refine lv_icmp_gt (tgt := 13) hx hb dX3_within_6 (by decide) (fun c6 => ?_) (fun c6 => ?_)
  · skip
    refine lv_iconst (v := 0) hx hb dX3_within_13 (by decide) ?_
    have hR2 : (fX3_within v mo) = 0 := (by unfold fX3_within; rw [if_neg c1, if_pos c6])
    rw [hQ]
    exact W.zret (v := 0) (ty := .boolean) hx hb hr rfl (fun t ht hW => ⟨_, rfl, hR2.symm, ht⟩) (fun q h => by cases h) dX3_within_14
  refine lv_iconst (v := 1) hx hb dX3_within_9 (by decide) ?_
  refine lv_goto (tgt := 14) hx hb dX3_within_10 (by decide) ?_
  have hR3 : (fX3_within v mo) = 1 := (by unfold fX3_within; rw [if_neg c1, if_neg c6])
  rw [hQ]
  exact W.zret (v := 1) (ty := .boolean) hx hb hr rfl (fun t ht hW => ⟨_, rfl, hR3.symm, ht⟩) (fun q h => by cases h) dX3_within_14

def fX3_has (se kk : Int32) : Int32 := (if ((se >>> (kk &&& 31)) &&& 1) = 0 then 0 else 1)
theorem q_X3_has : yX3_has.cls = RX3 ∧ yX3_has.cls ≠ "java/lang/invoke/MethodHandle" ∧ yX3_has.cls ≠ "java/lang/invoke/VarHandle" ∧ (parseMethodDescriptor yX3_has.desc).map (fun d => d.parameters.length) = some 2 := by decide +kernel
set_option maxHeartbeats 4000000 in
set_option maxRecDepth 100000 in
theorem c_X3_has (l : Launch) (D : va_G) (cI cS : ClassId) (se kk : Int32)  : PMi l yX3_has wsX3_has { frames := 0, cells := 0, slots := 0, locals := 0 } D cI cS [] [.int se, .int kk] (fX3_has se kk) := by
  refine kEnter (cc := cX3_has) (maxL := 2) (ret := (some .boolean)) (by decide) rfl (Nat.le_of_ble_eq_true rfl) ?_
  intro p e s m below meth c ls Qf hQ hx hb hml hr hlocks hown hts hK hP hl
  have hown : s.vm.findClass RX3 = some m.cls := hown
  have hl : lv_has ls 2 [(0, .int se), (1, .int kk)] := hl
  refine lv_iload_n hx hb dX3_has_0 rfl (lv_at hl 0 rfl) ?_
  refine lv_iload_n hx hb dX3_has_1 rfl (lv_at hl 1 rfl) ?_
  refine lv_ishr hx hb dX3_has_2 ?_
  refine lv_iconst (v := 1) hx hb dX3_has_3 (by decide) ?_
  refine lv_iand hx hb dX3_has_4 ?_
  refine lv_if_eq (tgt := 12) hx hb dX3_has_5 (by decide) (fun c5 => ?_) (fun c5 => ?_)
  · skip
    refine lv_iconst (v := 0) hx hb dX3_has_12 (by decide) ?_
    have hR1 : (fX3_has se kk) = 0 := (by unfold fX3_has; rw [if_pos c5])
    rw [hQ]
    exact W.zret (v := 0) (ty := .boolean) hx hb hr rfl (fun t ht hW => ⟨_, rfl, hR1.symm, ht⟩) (fun q h => by cases h) dX3_has_13
  refine lv_iconst (v := 1) hx hb dX3_has_8 (by decide) ?_
  refine lv_goto (tgt := 13) hx hb dX3_has_9 (by decide) ?_
  have hR2 : (fX3_has se kk) = 1 := (by unfold fX3_has; rw [if_neg c5])
  rw [hQ]
  exact W.zret (v := 1) (ty := .boolean) hx hb hr rfl (fun t ht hW => ⟨_, rfl, hR2.symm, ht⟩) (fun q h => by cases h) dX3_has_13

def fX3_isSetOf (ma se : Int32) : Int32 := (if se < 0 then 0 else (if ((1 <<< (ma &&& 31)) : Int32) ≤ se then 0 else 1))
theorem q_X3_isSetOf : yX3_isSetOf.cls = RX3 ∧ yX3_isSetOf.cls ≠ "java/lang/invoke/MethodHandle" ∧ yX3_isSetOf.cls ≠ "java/lang/invoke/VarHandle" ∧ (parseMethodDescriptor yX3_isSetOf.desc).map (fun d => d.parameters.length) = some 2 := by decide +kernel
set_option maxHeartbeats 4000000 in
set_option maxRecDepth 100000 in
theorem c_X3_isSetOf (l : Launch) (D : va_G) (cI cS : ClassId) (ma se : Int32)  : PMi l yX3_isSetOf wsX3_isSetOf { frames := 0, cells := 0, slots := 0, locals := 0 } D cI cS [] [.int ma, .int se] (fX3_isSetOf ma se) := by
  refine kEnter (cc := cX3_isSetOf) (maxL := 2) (ret := (some .boolean)) (by decide) rfl (Nat.le_of_ble_eq_true rfl) ?_
  intro p e s m below meth c ls Qf hQ hx hb hml hr hlocks hown hts hK hP hl
  have hown : s.vm.findClass RX3 = some m.cls := hown
  have hl : lv_has ls 2 [(0, .int ma), (1, .int se)] := hl
  refine lv_iload_n hx hb dX3_isSetOf_0 rfl (lv_at hl 1 rfl) ?_
  refine lv_if_lt (tgt := 15) hx hb dX3_isSetOf_1 (by decide) (fun c1 => ?_) (fun c1 => ?_)
  · skip
    refine lv_iconst (v := 0) hx hb dX3_isSetOf_15 (by decide) ?_
    have hR1 : (fX3_isSetOf ma se) = 0 := (by unfold fX3_isSetOf; rw [if_pos c1])
    rw [hQ]
    exact W.zret (v := 0) (ty := .boolean) hx hb hr rfl (fun t ht hW => ⟨_, rfl, hR1.symm, ht⟩) (fun q h => by cases h) dX3_isSetOf_16
  refine lv_iload_n hx hb dX3_isSetOf_4 rfl (lv_at hl 1 rfl) ?_
  refine lv_iconst (v := 1) hx hb dX3_isSetOf_5 (by decide) ?_
  refine lv_iload_n hx hb dX3_isSetOf_6 rfl (lv_at hl 0 rfl) ?_
  refine lv_ishl hx hb dX3_isSetOf_7 ?_
  refine lv_icmp_ge (tgt := 15) hx hb dX3_isSetOf_8 (by decide) (fun c8 => ?_) (fun c8 => ?_)
  · skip
    refine lv_iconst (v := 0) hx hb dX3_isSetOf_15 (by decide) ?_
    have hR2 : (fX3_isSetOf ma se) = 0 := (by unfold fX3_isSetOf; rw [if_neg c1, if_pos c8])
    rw [hQ]
    exact W.zret (v := 0) (ty := .boolean) hx hb hr rfl (fun t ht hW => ⟨_, rfl, hR2.symm, ht⟩) (fun q h => by cases h) dX3_isSetOf_16
  refine lv_iconst (v := 1) hx hb dX3_isSetOf_11 (by decide) ?_
  refine lv_goto (tgt := 16) hx hb dX3_isSetOf_12 (by decide) ?_
  have hR3 : (fX3_isSetOf ma se) = 1 := (by unfold fX3_isSetOf; rw [if_neg c1, if_neg c8])
  rw [hQ]
  exact W.zret (v := 1) (ty := .boolean) hx hb hr rfl (fun t ht hW => ⟨_, rfl, hR3.symm, ht⟩) (fun q h => by cases h) dX3_isSetOf_16

def fX3_at (N : Nat) (f : Nat → Int32) (i : Int32) : Int32 := (if i < 0 then 0 else (if ((nI N) : Int32) ≤ i then 0 else (f i.toNatClampNeg)))
theorem q_X3_at : yX3_at.cls = RX3 ∧ yX3_at.cls ≠ "java/lang/invoke/MethodHandle" ∧ yX3_at.cls ≠ "java/lang/invoke/VarHandle" ∧ (parseMethodDescriptor yX3_at.desc).map (fun d => d.parameters.length) = some 2 := by decide +kernel
set_option maxHeartbeats 4000000 in
set_option maxRecDepth 100000 in
theorem c_X3_at (l : Launch) (D : va_G) (cI cS : ClassId) (ar N : Nat) (f : Nat → Int32) (i : Int32) (hN : N < 2 ^ 31) : PMi l yX3_at wsX3_at { frames := 0, cells := 0, slots := 0, locals := 0 } D cI cS (wArr cI ar N f) [.ref ar, .int i] (fX3_at N f i) := by
  refine kEnter (cc := cX3_at) (maxL := 2) (ret := (some .int)) (by decide) rfl (Nat.le_of_ble_eq_true rfl) ?_
  intro p e s m below meth c ls Qf hQ hx hb hml hr hlocks hown hts hK hP hl
  have hown : s.vm.findClass RX3 = some m.cls := hown
  have hl : lv_has ls 2 [(0, .ref ar), (1, .int i)] := hl
  refine lv_iload_n hx hb dX3_at_0 rfl (lv_at hl 1 rfl) ?_
  refine lv_if_lt (tgt := 16) hx hb dX3_at_1 (by decide) (fun c1 => ?_) (fun c1 => ?_)
  · skip
    refine lv_iconst (v := 0) hx hb dX3_at_16 (by decide) ?_
    have hR1 : (fX3_at N f i) = 0 := (by unfold fX3_at; rw [if_pos c1])
    rw [hQ]
    exact W.iret (v := 0) hx hb hr (fun t ht hW => ⟨_, rfl, hR1.symm, ht⟩) (fun q h => by cases h) dX3_at_17
  refine lv_iload_n hx hb dX3_at_4 rfl (lv_at hl 1 rfl) ?_
  refine lv_aload_n hx hb dX3_at_5 rfl (lv_at hl 0 rfl) ?_
  refine va_alen hx hb hK.1 hP 0 0 rfl rfl (v := (nI N)) rfl dX3_at_6 ?_
  refine lv_icmp_ge (tgt := 16) hx hb dX3_at_7 (by decide) (fun c7 => ?_) (fun c7 => ?_)
  · skip
    refine lv_iconst (v := 0) hx hb dX3_at_16 (by decide) ?_
    have hR2 : (fX3_at N f i) = 0 := (by unfold fX3_at; rw [if_neg c1, if_pos c7])
    rw [hQ]
    exact W.iret (v := 0) hx hb hr (fun t ht hW => ⟨_, rfl, hR2.symm, ht⟩) (fun q h => by cases h) dX3_at_17
  refine lv_aload_n hx hb dX3_at_10 rfl (lv_at hl 0 rfl) ?_
  refine lv_iload_n hx hb dX3_at_11 rfl (lv_at hl 1 rfl) ?_
  refine va_iald hx hb hK.1 hP 0 0 rfl rfl (kIn hN c1 c7) dX3_at_12 ?_
  refine lv_goto (tgt := 17) hx hb dX3_at_13 (by decide) ?_
  have hR3 : (fX3_at N f i) = (f i.toNatClampNeg) := (by unfold fX3_at; rw [if_neg c1, if_neg c7])
  rw [hQ]
  exact W.iret (v := (f i.toNatClampNeg)) hx hb hr (fun t ht hW => ⟨_, rfl, hR3.symm, ht⟩) (fun q h => by cases h) dX3_at_17

def fX3_write (N : Nat) (f : Nat → Int32) (i v : Int32) : (Nat → Int32) := (if i < 0 then f else (if ((nI N) : Int32) ≤ i then f else (upd f i.toNatClampNeg v)))
theorem q_X3_write : yX3_write.cls = RX3 ∧ yX3_write.cls ≠ "java/lang/invoke/MethodHandle" ∧ yX3_write.cls ≠ "java/lang/invoke/VarHandle" ∧ (parseMethodDescriptor yX3_write.desc).map (fun d => d.parameters.length) = some 3 := by decide +kernel
set_option maxHeartbeats 4000000 in
set_option maxRecDepth 100000 in
theorem c_X3_write (l : Launch) (D : va_G) (cI cS : ClassId) (ar N : Nat) (f : Nat → Int32) (i v : Int32) (hN : N < 2 ^ 31) : MMv l yX3_write wsX3_write { frames := 0, cells := 0, slots := 0, locals := 0 } D cI cS (wArr cI ar N f) [.ref ar, .int i, .int v] (wArr cI ar N (fX3_write N f i v)) := by
  refine kEnterM (cc := cX3_write) (maxL := 3) (ret := none) (by decide) rfl (Nat.le_of_ble_eq_true rfl) ?_
  intro p e s m below meth c ls Qf hQ hx hb hml hr hlocks hown hts hK hP hD hS hl
  have hown : s.vm.findClass RX3 = some m.cls := hown
  have hl : lv_has ls 3 [(0, .ref ar), (1, .int i), (2, .int v)] := hl
  generalize kA (wArr cI ar N f) = A at hQ hD hS
  refine lv_iload_n hx hb dX3_write_0 rfl (lv_at hl 1 rfl) ?_
  refine lv_if_lt (tgt := 14) hx hb dX3_write_1 (by decide) (fun c1 => ?_) (fun c1 => ?_)
  · skip
    have hR1 : (fX3_write N f i v) = f := (by unfold fX3_write; rw [if_pos c1])
    rw [hQ]
    exact W.vret hx hb hr (fun t ht hW => ⟨⟨(), rfl, trivial, (by show va_P D vwCl _ t.heap; rw [hR1, ht]; exact hP)⟩, hS.F ht⟩) hS.2.2 dX3_write_14
  refine lv_iload_n hx hb dX3_write_4 rfl (lv_at hl 1 rfl) ?_
  refine lv_aload_n hx hb dX3_write_5 rfl (lv_at hl 0 rfl) ?_
  refine va_alen hx hb hK.1 hP 0 0 rfl rfl (v := (nI N)) rfl dX3_write_6 ?_
  refine lv_icmp_ge (tgt := 14) hx hb dX3_write_7 (by decide) (fun c7 => ?_) (fun c7 => ?_)
  · skip
    have hR2 : (fX3_write N f i v) = f := (by unfold fX3_write; rw [if_neg c1, if_pos c7])
    rw [hQ]
    exact W.vret hx hb hr (fun t ht hW => ⟨⟨(), rfl, trivial, (by show va_P D vwCl _ t.heap; rw [hR2, ht]; exact hP)⟩, hS.F ht⟩) hS.2.2 dX3_write_14
  refine lv_aload_n hx hb dX3_write_10 rfl (lv_at hl 0 rfl) ?_
  refine lv_iload_n hx hb dX3_write_11 rfl (lv_at hl 1 rfl) ?_
  refine lv_iload_n hx hb dX3_write_12 rfl (lv_at hl 2 rfl) ?_
  refine va_iast hx hb hK.1 hP hD hS 0 0 rfl rfl (kIn hN c1 c7) dX3_write_13 (fun H locs hP hD hS => ?_)
  have hP : va_P D vwCl (wArr cI ar N (upd f i.toNatClampNeg v)) H := hP
  have hD : va_D A (wArr cI ar N (upd f i.toNatClampNeg v)) := hD
  have hR3 : (fX3_write N f i v) = (upd f i.toNatClampNeg v) := (by unfold fX3_write; rw [if_neg c1, if_neg c7])
  rw [hQ]
  exact W.vret hx hb hr (fun t ht hW => ⟨⟨(), rfl, trivial, (by show va_P D vwCl _ t.heap; rw [hR3, ht]; exact hP)⟩, hS.F ht⟩) hS.2.2 dX3_write_14

def fX1_answers (an : Int32) : Int32 := an
theorem q_X1_answers : yX1_answers.cls = RX1 ∧ yX1_answers.cls ≠ "java/lang/invoke/MethodHandle" ∧ yX1_answers.cls ≠ "java/lang/invoke/VarHandle" ∧ (parseMethodDescriptor yX1_answers.desc).map (fun d => d.parameters.length) = some 0 := by decide +kernel
set_option maxHeartbeats 4000000 in
set_option maxRecDepth 100000 in
theorem c_X1_answers (l : Launch) (D : va_G) (cI cS : ClassId) (h ak ap aw : Nat) (an pn gr : Int32) (kd pl wt : Nat → Int32)  : PMi l yX1_answers wsX1_answers { frames := 0, cells := 0, slots := 0, locals := 0 } D cI cS (wSec cI h ak ap aw an pn gr kd pl wt) [.ref h] (fX1_answers an) := by
  refine kEnter (cc := cX1_answers) (maxL := 1) (ret := (some .int)) (by decide) rfl (Nat.le_of_ble_eq_true rfl) ?_
  intro p e s m below meth c ls Qf hQ hx hb hml hr hlocks hown hts hK hP hl
  have hown : s.vm.findClass RX1 = some m.cls := hown
  have hl : lv_has ls 1 [(0, .ref h)] := hl
  refine lv_aload_n hx hb dX1_answers_0 rfl (lv_at hl 0 rfl) ?_
  refine va_get (D := D) (ci := 1) (v := .int an) (C := RX1) (T := TX1) (N := 6) hx hb hts (fun _ h => List.mem_cons_of_mem _ (List.mem_append_right _ h)) hown hK.1 hP 0 rfl rfl 3 (by decide) (hts (.fieldLink RX1 21 "LieNights$Secret" "answers" "I") (List.mem_of_getElem? (i := 1) rfl)) (fun _ h9 => h9) rfl dX1_answers_1 ?_
  have hR1 : (fX1_answers an) = an := rfl
  rw [hQ]
  exact W.iret (v := an) hx hb hr (fun t ht hW => ⟨_, rfl, hR1.symm, ht⟩) (fun q h => by cases h) dX1_answers_4

def fX1_pillars (pn : Int32) : Int32 := pn
theorem q_X1_pillars : yX1_pillars.cls = RX1 ∧ yX1_pillars.cls ≠ "java/lang/invoke/MethodHandle" ∧ yX1_pillars.cls ≠ "java/lang/invoke/VarHandle" ∧ (parseMethodDescriptor yX1_pillars.desc).map (fun d => d.parameters.length) = some 0 := by decide +kernel
set_option maxHeartbeats 4000000 in
set_option maxRecDepth 100000 in
theorem c_X1_pillars (l : Launch) (D : va_G) (cI cS : ClassId) (h ak ap aw : Nat) (an pn gr : Int32) (kd pl wt : Nat → Int32)  : PMi l yX1_pillars wsX1_pillars { frames := 0, cells := 0, slots := 0, locals := 0 } D cI cS (wSec cI h ak ap aw an pn gr kd pl wt) [.ref h] (fX1_pillars pn) := by
  refine kEnter (cc := cX1_pillars) (maxL := 1) (ret := (some .int)) (by decide) rfl (Nat.le_of_ble_eq_true rfl) ?_
  intro p e s m below meth c ls Qf hQ hx hb hml hr hlocks hown hts hK hP hl
  have hown : s.vm.findClass RX1 = some m.cls := hown
  have hl : lv_has ls 1 [(0, .ref h)] := hl
  refine lv_aload_n hx hb dX1_pillars_0 rfl (lv_at hl 0 rfl) ?_
  refine va_get (D := D) (ci := 1) (v := .int pn) (C := RX1) (T := TX1) (N := 6) hx hb hts (fun _ h => List.mem_cons_of_mem _ (List.mem_append_right _ h)) hown hK.1 hP 0 rfl rfl 4 (by decide) (hts (.fieldLink RX1 25 "LieNights$Secret" "pillars" "I") (List.mem_of_getElem? (i := 1) rfl)) (fun _ h9 => h9) rfl dX1_pillars_1 ?_
  have hR1 : (fX1_pillars pn) = pn := rfl
  rw [hQ]
  exact W.iret (v := pn) hx hb hr (fun t ht hW => ⟨_, rfl, hR1.symm, ht⟩) (fun q h => by cases h) dX1_pillars_4

def fX1_growth (gr : Int32) : Int32 := gr
theorem q_X1_growth : yX1_growth.cls = RX1 ∧ yX1_growth.cls ≠ "java/lang/invoke/MethodHandle" ∧ yX1_growth.cls ≠ "java/lang/invoke/VarHandle" ∧ (parseMethodDescriptor yX1_growth.desc).map (fun d => d.parameters.length) = some 0 := by decide +kernel
set_option maxHeartbeats 4000000 in
set_option maxRecDepth 100000 in
theorem c_X1_growth (l : Launch) (D : va_G) (cI cS : ClassId) (h ak ap aw : Nat) (an pn gr : Int32) (kd pl wt : Nat → Int32)  : PMi l yX1_growth wsX1_growth { frames := 0, cells := 0, slots := 0, locals := 0 } D cI cS (wSec cI h ak ap aw an pn gr kd pl wt) [.ref h] (fX1_growth gr) := by
  refine kEnter (cc := cX1_growth) (maxL := 1) (ret := (some .int)) (by decide) rfl (Nat.le_of_ble_eq_true rfl) ?_
  intro p e s m below meth c ls Qf hQ hx hb hml hr hlocks hown hts hK hP hl
  have hown : s.vm.findClass RX1 = some m.cls := hown
  have hl : lv_has ls 1 [(0, .ref h)] := hl
  refine lv_aload_n hx hb dX1_growth_0 rfl (lv_at hl 0 rfl) ?_
  refine va_get (D := D) (ci := 1) (v := .int gr) (C := RX1) (T := TX1) (N := 6) hx hb hts (fun _ h => List.mem_cons_of_mem _ (List.mem_append_right _ h)) hown hK.1 hP 0 rfl rfl 5 (by decide) (hts (.fieldLink RX1 28 "LieNights$Secret" "growth" "I") (List.mem_of_getElem? (i := 1) rfl)) (fun _ h9 => h9) rfl dX1_growth_1 ?_
  have hR1 : (fX1_growth gr) = gr := rfl
  rw [hQ]
  exact W.iret (v := gr) hx hb hr (fun t ht hW => ⟨_, rfl, hR1.symm, ht⟩) (fun q h => by cases h) dX1_growth_4

def fX1_kindOf (kd : Nat → Int32) (x : Int32) : Int32 := (fX3_at 6 kd x)
theorem q_X1_kindOf : yX1_kindOf.cls = RX1 ∧ yX1_kindOf.cls ≠ "java/lang/invoke/MethodHandle" ∧ yX1_kindOf.cls ≠ "java/lang/invoke/VarHandle" ∧ (parseMethodDescriptor yX1_kindOf.desc).map (fun d => d.parameters.length) = some 1 := by decide +kernel
set_option maxHeartbeats 4000000 in
set_option maxRecDepth 100000 in
theorem c_X1_kindOf (l : Launch) (D : va_G) (cI cS : ClassId) (h ak ap aw : Nat) (an pn gr : Int32) (kd pl wt : Nat → Int32) (x : Int32)  : PMi l yX1_kindOf wsX1_kindOf { frames := 1, cells := 0, slots := 0, locals := 21 } D cI cS (wSec cI h ak ap aw an pn gr kd pl wt) [.ref h, .int x] (fX1_kindOf kd x) := by
  refine kEnter (cc := cX1_kindOf) (maxL := 2) (ret := (some .int)) (by decide) rfl (Nat.le_of_ble_eq_true rfl) ?_
  intro p e s m below meth c ls Qf hQ hx hb hml hr hlocks hown hts hK hP hl
  have hown : s.vm.findClass RX1 = some m.cls := hown
  have hl : lv_has ls 2 [(0, .ref h), (1, .int x)] := hl
  refine lv_aload_n hx hb dX1_kindOf_0 rfl (lv_at hl 0 rfl) ?_
  refine va_get (D := D) (ci := 1) (v := .ref ak) (C := RX1) (T := TX1) (N := 6) hx hb hts (fun _ h => List.mem_cons_of_mem _ (List.mem_append_right _ h)) hown hK.1 hP 0 rfl rfl 0 (by decide) (hts (.fieldLink RX1 11 "LieNights$Secret" "kinds" "[I") (List.mem_of_getElem? (i := 1) rfl)) (fun _ h9 => h9) rfl dX1_kindOf_1 ?_
  refine lv_iload_n hx hb dX1_kindOf_4 rfl (lv_at hl 1 rfl) ?_
  refine kPi (va_runSN (As := [.ref ak, .int x]) (rest := []) ⟨hx, hb, hml, hown, hts⟩ (c_X3_at l D cI cS ak 6 kd x (by decide)) ⟨va_cnB 2 hts gX1_kindOf_X3_at_n31 rfl rfl rfl (hK.2.at 7 (q := (RX1, 31, yX3_at, "LieNights")) rfl) (hts _ (List.mem_of_getElem? (i := 3) rfl)) q_X3_at.2 ⟨Nat.le_of_ble_eq_true rfl, Nat.le_of_ble_eq_true rfl⟩, hts _ (List.mem_of_getElem? (i := 2) rfl), trivial⟩ (kPS hK hP [1] rfl [.ref ak, .int x]) rfl rfl hl.1 rfl (lv_room (Nat.le_of_ble_eq_true rfl)) dX1_kindOf_5 ⟨Nat.zero_le _, Nat.zero_le _⟩) ?_
  have hR1 : (fX1_kindOf kd x) = (fX3_at 6 kd x) := rfl
  rw [hQ]
  exact W.iret (v := (fX3_at 6 kd x)) hx hb hr (fun t ht hW => ⟨_, rfl, hR1.symm, ht⟩) (fun q h => by cases h) dX1_kindOf_8

def fX1_placeOf (pl : Nat → Int32) (x : Int32) : Int32 := (fX3_at 6 pl x)
theorem q_X1_placeOf : yX1_placeOf.cls = RX1 ∧ yX1_placeOf.cls ≠ "java/lang/invoke/MethodHandle" ∧ yX1_placeOf.cls ≠ "java/lang/invoke/VarHandle" ∧ (parseMethodDescriptor yX1_placeOf.desc).map (fun d => d.parameters.length) = some 1 := by decide +kernel
set_option maxHeartbeats 4000000 in
set_option maxRecDepth 100000 in
theorem c_X1_placeOf (l : Launch) (D : va_G) (cI cS : ClassId) (h ak ap aw : Nat) (an pn gr : Int32) (kd pl wt : Nat → Int32) (x : Int32)  : PMi l yX1_placeOf wsX1_placeOf { frames := 1, cells := 0, slots := 0, locals := 21 } D cI cS (wSec cI h ak ap aw an pn gr kd pl wt) [.ref h, .int x] (fX1_placeOf pl x) := by
  refine kEnter (cc := cX1_placeOf) (maxL := 2) (ret := (some .int)) (by decide) rfl (Nat.le_of_ble_eq_true rfl) ?_
  intro p e s m below meth c ls Qf hQ hx hb hml hr hlocks hown hts hK hP hl
  have hown : s.vm.findClass RX1 = some m.cls := hown
  have hl : lv_has ls 2 [(0, .ref h), (1, .int x)] := hl
  refine lv_aload_n hx hb dX1_placeOf_0 rfl (lv_at hl 0 rfl) ?_
  refine va_get (D := D) (ci := 1) (v := .ref ap) (C := RX1) (T := TX1) (N := 6) hx hb hts (fun _ h => List.mem_cons_of_mem _ (List.mem_append_right _ h)) hown hK.1 hP 0 rfl rfl 1 (by decide) (hts (.fieldLink RX1 15 "LieNights$Secret" "places" "[I") (List.mem_of_getElem? (i := 1) rfl)) (fun _ h9 => h9) rfl dX1_placeOf_1 ?_
  refine lv_iload_n hx hb dX1_placeOf_4 rfl (lv_at hl 1 rfl) ?_
  refine kPi (va_runSN (As := [.ref ap, .int x]) (rest := []) ⟨hx, hb, hml, hown, hts⟩ (c_X3_at l D cI cS ap 6 pl x (by decide)) ⟨va_cnB 2 hts gX1_placeOf_X3_at_n31 rfl rfl rfl (hK.2.at 7 (q := (RX1, 31, yX3_at, "LieNights")) rfl) (hts _ (List.mem_of_getElem? (i := 3) rfl)) q_X3_at.2 ⟨Nat.le_of_ble_eq_true rfl, Nat.le_of_ble_eq_true rfl⟩, hts _ (List.mem_of_getElem? (i := 2) rfl), trivial⟩ (kPS hK hP [2] rfl [.ref ap, .int x]) rfl rfl hl.1 rfl (lv_room (Nat.le_of_ble_eq_true rfl)) dX1_placeOf_5 ⟨Nat.zero_le _, Nat.zero_le _⟩) ?_
  have hR1 : (fX1_placeOf pl x) = (fX3_at 6 pl x) := rfl
  rw [hQ]
  exact W.iret (v := (fX3_at 6 pl x)) hx hb hr (fun t ht hW => ⟨_, rfl, hR1.symm, ht⟩) (fun q h => by cases h) dX1_placeOf_8

def fX1_weightOf (wt : Nat → Int32) (x : Int32) : Int32 := (fX3_at 5 wt x)
theorem q_X1_weightOf : yX1_weightOf.cls = RX1 ∧ yX1_weightOf.cls ≠ "java/lang/invoke/MethodHandle" ∧ yX1_weightOf.cls ≠ "java/lang/invoke/VarHandle" ∧ (parseMethodDescriptor yX1_weightOf.desc).map (fun d => d.parameters.length) = some 1 := by decide +kernel
set_option maxHeartbeats 4000000 in
set_option maxRecDepth 100000 in
theorem c_X1_weightOf (l : Launch) (D : va_G) (cI cS : ClassId) (h ak ap aw : Nat) (an pn gr : Int32) (kd pl wt : Nat → Int32) (x : Int32)  : PMi l yX1_weightOf wsX1_weightOf { frames := 1, cells := 0, slots := 0, locals := 21 } D cI cS (wSec cI h ak ap aw an pn gr kd pl wt) [.ref h, .int x] (fX1_weightOf wt x) := by
  refine kEnter (cc := cX1_weightOf) (maxL := 2) (ret := (some .int)) (by decide) rfl (Nat.le_of_ble_eq_true rfl) ?_
  intro p e s m below meth c ls Qf hQ hx hb hml hr hlocks hown hts hK hP hl
  have hown : s.vm.findClass RX1 = some m.cls := hown
  have hl : lv_has ls 2 [(0, .ref h), (1, .int x)] := hl
  refine lv_aload_n hx hb dX1_weightOf_0 rfl (lv_at hl 0 rfl) ?_
  refine va_get (D := D) (ci := 1) (v := .ref aw) (C := RX1) (T := TX1) (N := 6) hx hb hts (fun _ h => List.mem_cons_of_mem _ (List.mem_append_right _ h)) hown hK.1 hP 0 rfl rfl 2 (by decide) (hts (.fieldLink RX1 18 "LieNights$Secret" "weights" "[I") (List.mem_of_getElem? (i := 1) rfl)) (fun _ h9 => h9) rfl dX1_weightOf_1 ?_
  refine lv_iload_n hx hb dX1_weightOf_4 rfl (lv_at hl 1 rfl) ?_
  refine kPi (va_runSN (As := [.ref aw, .int x]) (rest := []) ⟨hx, hb, hml, hown, hts⟩ (c_X3_at l D cI cS aw 5 wt x (by decide)) ⟨va_cnB 2 hts gX1_weightOf_X3_at_n31 rfl rfl rfl (hK.2.at 7 (q := (RX1, 31, yX3_at, "LieNights")) rfl) (hts _ (List.mem_of_getElem? (i := 3) rfl)) q_X3_at.2 ⟨Nat.le_of_ble_eq_true rfl, Nat.le_of_ble_eq_true rfl⟩, hts _ (List.mem_of_getElem? (i := 2) rfl), trivial⟩ (kPS hK hP [3] rfl [.ref aw, .int x]) rfl rfl hl.1 rfl (lv_room (Nat.le_of_ble_eq_true rfl)) dX1_weightOf_5 ⟨Nat.zero_le _, Nat.zero_le _⟩) ?_
  have hR1 : (fX1_weightOf wt x) = (fX3_at 5 wt x) := rfl
  rw [hQ]
  exact W.iret (v := (fX3_at 5 wt x)) hx hb hr (fun t ht hW => ⟨_, rfl, hR1.symm, ht⟩) (fun q h => by cases h) dX1_weightOf_8

def fX1_setGrowth (v : Int32) : Int32 := v
theorem q_X1_setGrowth : yX1_setGrowth.cls = RX1 ∧ yX1_setGrowth.cls ≠ "java/lang/invoke/MethodHandle" ∧ yX1_setGrowth.cls ≠ "java/lang/invoke/VarHandle" ∧ (parseMethodDescriptor yX1_setGrowth.desc).map (fun d => d.parameters.length) = some 1 := by decide +kernel
set_option maxHeartbeats 4000000 in
set_option maxRecDepth 100000 in
theorem c_X1_setGrowth (l : Launch) (D : va_G) (cI cS : ClassId) (h ak ap aw : Nat) (an pn gr : Int32) (kd pl wt : Nat → Int32) (v : Int32)  : MMv l yX1_setGrowth wsX1_setGrowth { frames := 0, cells := 0, slots := 0, locals := 0 } D cI cS (wSec cI h ak ap aw an pn gr kd pl wt) [.ref h, .int v] (wSec cI h ak ap aw an pn (fX1_setGrowth v) kd pl wt) := by
  refine kEnterM (cc := cX1_setGrowth) (maxL := 2) (ret := none) (by decide) rfl (Nat.le_of_ble_eq_true rfl) ?_
  intro p e s m below meth c ls Qf hQ hx hb hml hr hlocks hown hts hK hP hD hS hl
  have hown : s.vm.findClass RX1 = some m.cls := hown
  have hl : lv_has ls 2 [(0, .ref h), (1, .int v)] := hl
  generalize kA (wSec cI h ak ap aw an pn gr kd pl wt) = A at hQ hD hS
  refine lv_aload_n hx hb dX1_setGrowth_0 rfl (lv_at hl 0 rfl) ?_
  refine lv_iload_n hx hb dX1_setGrowth_1 rfl (lv_at hl 1 rfl) ?_
  refine va_put (D := D) (ci := 1) (v := .int v) (ty := tyX1 5) (C := RX1) (T := TX1) (N := 6) hx hb hts (fun _ h => List.mem_cons_of_mem _ (List.mem_append_right _ h)) tyX1 tyX1_ok nmX1 hown hK.1 hP hD hS 0 rfl rfl 5 (by decide) (hts (.fieldLink RX1 28 "LieNights$Secret" "growth" "I") (List.mem_of_getElem? (i := 1) rfl)) (fun _ h9 => h9) rfl (tyX1_ok 5 (by decide)) rfl rfl (Nat.le_of_ble_eq_true rfl) dX1_setGrowth_2 (fun H locs hP hD hS => ?_)
  have hP : va_P D vwCl (wSec cI h ak ap aw an pn v kd pl wt) H := hP
  have hD : va_D A (wSec cI h ak ap aw an pn v kd pl wt) := hD
  have hR1 : (fX1_setGrowth v) = v := rfl
  rw [hQ]
  exact W.vret hx hb hr (fun t ht hW => ⟨⟨(), rfl, trivial, (by show va_P D vwCl _ t.heap; rw [hR1, ht]; exact hP)⟩, hS.F ht⟩) hS.2.2 dX1_setGrowth_5

def fX1_setKind (kd : Nat → Int32) (x v : Int32) : (Nat → Int32) := (fX3_write 6 kd x v)
theorem q_X1_setKind : yX1_setKind.cls = RX1 ∧ yX1_setKind.cls ≠ "java/lang/invoke/MethodHandle" ∧ yX1_setKind.cls ≠ "java/lang/invoke/VarHandle" ∧ (parseMethodDescriptor yX1_setKind.desc).map (fun d => d.parameters.length) = some 2 := by decide +kernel
set_option maxHeartbeats 4000000 in
set_option maxRecDepth 100000 in
theorem c_X1_setKind (l : Launch) (D : va_G) (cI cS : ClassId) (h ak ap aw : Nat) (an pn gr : Int32) (kd pl wt : Nat → Int32) (x v : Int32)  : MMv l yX1_setKind wsX1_setKind { frames := 1, cells := 0, slots := 0, locals := 22 } D cI cS (wSec cI h ak ap aw an pn gr kd pl wt) [.ref h, .int x, .int v] (wSec cI h ak ap aw an pn gr (fX1_setKind kd x v) pl wt) := by
  refine kEnterM (cc := cX1_setKind) (maxL := 3) (ret := none) (by decide) rfl (Nat.le_of_ble_eq_true rfl) ?_
  intro p e s m below meth c ls Qf hQ hx hb hml hr hlocks hown hts hK hP hD hS hl
  have hown : s.vm.findClass RX1 = some m.cls := hown
  have hl : lv_has ls 3 [(0, .ref h), (1, .int x), (2, .int v)] := hl
  generalize kA (wSec cI h ak ap aw an pn gr kd pl wt) = A at hQ hD hS
  refine lv_aload_n hx hb dX1_setKind_0 rfl (lv_at hl 0 rfl) ?_
  refine va_get (D := D) (ci := 1) (v := .ref ak) (C := RX1) (T := TX1) (N := 6) hx hb hts (fun _ h => List.mem_cons_of_mem _ (List.mem_append_right _ h)) hown hK.1 hP 0 rfl rfl 0 (by decide) (hts (.fieldLink RX1 11 "LieNights$Secret" "kinds" "[I") (List.mem_of_getElem? (i := 1) rfl)) (fun _ h9 => h9) rfl dX1_setKind_1 ?_
  refine lv_iload_n hx hb dX1_setKind_4 rfl (lv_at hl 1 rfl) ?_
  refine lv_iload_n hx hb dX1_setKind_5 rfl (lv_at hl 2 rfl) ?_
  refine kMv (wl' := (wSec cI h ak ap aw an pn gr (fX3_write 6 kd x v) pl wt)) (wc := (wArr cI ak 6 kd)) (w1 := (wArr cI ak 6 (fX3_write 6 kd x v))) hP hD hS [1] rfl rfl rfl (va_runSN (As := [.ref ak, .int x, .int v]) (rest := []) ⟨hx, hb, hml, hown, hts⟩ (c_X3_write l D cI cS ak 6 kd x v (by decide)) ⟨va_cnB 3 hts gX1_setKind_X3_write_n35 rfl rfl rfl (hK.2.at 6 (q := (RX1, 35, yX3_write, "LieNights")) rfl) (hts _ (List.mem_of_getElem? (i := 3) rfl)) q_X3_write.2 ⟨Nat.le_of_ble_eq_true rfl, Nat.le_of_ble_eq_true rfl⟩, hts _ (List.mem_of_getElem? (i := 2) rfl), trivial⟩ (kMS hK hP hD [1] rfl rfl [.ref ak, .int x, .int v]) rfl rfl hl.1 rfl (lv_room (Nat.le_of_ble_eq_true rfl)) dX1_setKind_6 ⟨Nat.zero_le _, Nat.zero_le _⟩) (fun H locs hP hD hS => ?_)
  have hR1 : (fX1_setKind kd x v) = (fX3_write 6 kd x v) := rfl
  rw [hQ]
  exact W.vret hx hb hr (fun t ht hW => ⟨⟨(), rfl, trivial, (by show va_P D vwCl _ t.heap; rw [hR1, ht]; exact hP)⟩, hS.F ht⟩) hS.2.2 dX1_setKind_9

def fX1_setPlace (pl : Nat → Int32) (x v : Int32) : (Nat → Int32) := (fX3_write 6 pl x v)
theorem q_X1_setPlace : yX1_setPlace.cls = RX1 ∧ yX1_setPlace.cls ≠ "java/lang/invoke/MethodHandle" ∧ yX1_setPlace.cls ≠ "java/lang/invoke/VarHandle" ∧ (parseMethodDescriptor yX1_setPlace.desc).map (fun d => d.parameters.length) = some 2 := by decide +kernel
set_option maxHeartbeats 4000000 in
set_option maxRecDepth 100000 in
theorem c_X1_setPlace (l : Launch) (D : va_G) (cI cS : ClassId) (h ak ap aw : Nat) (an pn gr : Int32) (kd pl wt : Nat → Int32) (x v : Int32)  : MMv l yX1_setPlace wsX1_setPlace { frames := 1, cells := 0, slots := 0, locals := 22 } D cI cS (wSec cI h ak ap aw an pn gr kd pl wt) [.ref h, .int x, .int v] (wSec cI h ak ap aw an pn gr kd (fX1_setPlace pl x v) wt) := by
  refine kEnterM (cc := cX1_setPlace) (maxL := 3) (ret := none) (by decide) rfl (Nat.le_of_ble_eq_true rfl) ?_
  intro p e s m below meth c ls Qf hQ hx hb hml hr hlocks hown hts hK hP hD hS hl
  have hown : s.vm.findClass RX1 = some m.cls := hown
  have hl : lv_has ls 3 [(0, .ref h), (1, .int x), (2, .int v)] := hl
  generalize kA (wSec cI h ak ap aw an pn gr kd pl wt) = A at hQ hD hS
  refine lv_aload_n hx hb dX1_setPlace_0 rfl (lv_at hl 0 rfl) ?_
  refine va_get (D := D) (ci := 1) (v := .ref ap) (C := RX1) (T := TX1) (N := 6) hx hb hts (fun _ h => List.mem_cons_of_mem _ (List.mem_append_right _ h)) hown hK.1 hP 0 rfl rfl 1 (by decide) (hts (.fieldLink RX1 15 "LieNights$Secret" "places" "[I") (List.mem_of_getElem? (i := 1) rfl)) (fun _ h9 => h9) rfl dX1_setPlace_1 ?_
  refine lv_iload_n hx hb dX1_setPlace_4 rfl (lv_at hl 1 rfl) ?_
  refine lv_iload_n hx hb dX1_setPlace_5 rfl (lv_at hl 2 rfl) ?_
  refine kMv (wl' := (wSec cI h ak ap aw an pn gr kd (fX3_write 6 pl x v) wt)) (wc := (wArr cI ap 6 pl)) (w1 := (wArr cI ap 6 (fX3_write 6 pl x v))) hP hD hS [2] rfl rfl rfl (va_runSN (As := [.ref ap, .int x, .int v]) (rest := []) ⟨hx, hb, hml, hown, hts⟩ (c_X3_write l D cI cS ap 6 pl x v (by decide)) ⟨va_cnB 3 hts gX1_setPlace_X3_write_n35 rfl rfl rfl (hK.2.at 6 (q := (RX1, 35, yX3_write, "LieNights")) rfl) (hts _ (List.mem_of_getElem? (i := 3) rfl)) q_X3_write.2 ⟨Nat.le_of_ble_eq_true rfl, Nat.le_of_ble_eq_true rfl⟩, hts _ (List.mem_of_getElem? (i := 2) rfl), trivial⟩ (kMS hK hP hD [2] rfl rfl [.ref ap, .int x, .int v]) rfl rfl hl.1 rfl (lv_room (Nat.le_of_ble_eq_true rfl)) dX1_setPlace_6 ⟨Nat.zero_le _, Nat.zero_le _⟩) (fun H locs hP hD hS => ?_)
  have hR1 : (fX1_setPlace pl x v) = (fX3_write 6 pl x v) := rfl
  rw [hQ]
  exact W.vret hx hb hr (fun t ht hW => ⟨⟨(), rfl, trivial, (by show va_P D vwCl _ t.heap; rw [hR1, ht]; exact hP)⟩, hS.F ht⟩) hS.2.2 dX1_setPlace_9

def fX1_all (an : Int32) : Int32 := ((1 <<< (an &&& 31)) - 1)
theorem q_X1_all : yX1_all.cls = RX1 ∧ yX1_all.cls ≠ "java/lang/invoke/MethodHandle" ∧ yX1_all.cls ≠ "java/lang/invoke/VarHandle" ∧ (parseMethodDescriptor yX1_all.desc).map (fun d => d.parameters.length) = some 0 := by decide +kernel
set_option maxHeartbeats 4000000 in
set_option maxRecDepth 100000 in
theorem c_X1_all (l : Launch) (D : va_G) (cI cS : ClassId) (h ak ap aw : Nat) (an pn gr : Int32) (kd pl wt : Nat → Int32)  : PMi l yX1_all wsX1_all { frames := 0, cells := 0, slots := 0, locals := 0 } D cI cS (wSec cI h ak ap aw an pn gr kd pl wt) [.ref h] (fX1_all an) := by
  refine kEnter (cc := cX1_all) (maxL := 1) (ret := (some .int)) (by decide) rfl (Nat.le_of_ble_eq_true rfl) ?_
  intro p e s m below meth c ls Qf hQ hx hb hml hr hlocks hown hts hK hP hl
  have hown : s.vm.findClass RX1 = some m.cls := hown
  have hl : lv_has ls 1 [(0, .ref h)] := hl
  refine lv_iconst (v := 1) hx hb dX1_all_0 (by decide) ?_
  refine lv_aload_n hx hb dX1_all_1 rfl (lv_at hl 0 rfl) ?_
  refine va_get (D := D) (ci := 1) (v := .int an) (C := RX1) (T := TX1) (N := 6) hx hb hts (fun _ h => List.mem_cons_of_mem _ (List.mem_append_right _ h)) hown hK.1 hP 0 rfl rfl 3 (by decide) (hts (.fieldLink RX1 21 "LieNights$Secret" "answers" "I") (List.mem_of_getElem? (i := 1) rfl)) (fun _ h9 => h9) rfl dX1_all_2 ?_
  refine lv_ishl hx hb dX1_all_5 ?_
  refine lv_iconst (v := 1) hx hb dX1_all_6 (by decide) ?_
  refine lv_isub hx hb dX1_all_7 ?_
  have hR1 : (fX1_all an) = ((1 <<< (an &&& 31)) - 1) := rfl
  rw [hQ]
  exact W.iret (v := ((1 <<< (an &&& 31)) - 1)) hx hb hr (fun t ht hW => ⟨_, rfl, hR1.symm, ht⟩) (fun q h => by cases h) dX1_all_8

def fX1_shownBy (kd pl : Nat → Int32) (x t : Int32) : Int32 := (if x = t then (-9) else (if (fX3_at 6 kd x) = 1 then ((if 0 ≤ ((fX3_at 6 pl x) - (fX3_at 6 pl t)) then ((fX3_at 6 pl x) - (fX3_at 6 pl t)) else 0 - ((fX3_at 6 pl x) - (fX3_at 6 pl t))) + 1) else (if (fX3_at 6 kd x) = 2 then ((if 0 ≤ ((fX3_at 6 pl x) - (fX3_at 6 pl t)) then ((fX3_at 6 pl x) - (fX3_at 6 pl t)) else 0 - ((fX3_at 6 pl x) - (fX3_at 6 pl t))) / 2) else (if 0 ≤ ((fX3_at 6 pl x) - (fX3_at 6 pl t)) then ((fX3_at 6 pl x) - (fX3_at 6 pl t)) else 0 - ((fX3_at 6 pl x) - (fX3_at 6 pl t))))))
theorem q_X1_shownBy : yX1_shownBy.cls = RX1 ∧ yX1_shownBy.cls ≠ "java/lang/invoke/MethodHandle" ∧ yX1_shownBy.cls ≠ "java/lang/invoke/VarHandle" ∧ (parseMethodDescriptor yX1_shownBy.desc).map (fun d => d.parameters.length) = some 2 := by decide +kernel
set_option maxHeartbeats 4000000 in
set_option maxRecDepth 100000 in
theorem c_X1_shownBy (l : Launch) (D : va_G) (cI cS : ClassId) (h ak ap aw : Nat) (an pn gr : Int32) (kd pl wt : Nat → Int32) (x t : Int32)  : PMi l yX1_shownBy wsX1_shownBy { frames := 1, cells := 0, slots := 0, locals := 21 } D cI cS (wSec cI h ak ap aw an pn gr kd pl wt) [.ref h, .int x, .int t] (fX1_shownBy kd pl x t) := by
  refine kEnter (cc := cX1_shownBy) (maxL := 4) (ret := (some .int)) (by decide) rfl (Nat.le_of_ble_eq_true rfl) ?_
  intro p e s m below meth c ls Qf hQ hx hb hml hr hlocks hown hts hK hP hl
  have hown : s.vm.findClass RX1 = some m.cls := hown
  have hl : lv_has ls 4 [(0, .ref h), (1, .int x), (2, .int t)] := hl
  refine lv_iload_n hx hb dX1_shownBy_0 rfl (lv_at hl 1 rfl) ?_
  refine lv_iload_n hx hb dX1_shownBy_1 rfl (lv_at hl 2 rfl) ?_
  refine lv_icmp_ne (tgt := 8) hx hb dX1_shownBy_2 (by decide) (fun c2 => ?_) (fun c2 => ?_)
  · skip
    refine lv_aload_n hx hb dX1_shownBy_8 rfl (lv_at hl 0 rfl) ?_
    refine va_get (D := D) (ci := 1) (v := .ref ap) (C := RX1) (T := TX1) (N := 6) hx hb hts (fun _ h => List.mem_cons_of_mem _ (List.mem_append_right _ h)) hown hK.1 hP 0 rfl rfl 1 (by decide) (hts (.fieldLink RX1 15 "LieNights$Secret" "places" "[I") (List.mem_of_getElem? (i := 1) rfl)) (fun _ h9 => h9) rfl dX1_shownBy_9 ?_
    refine lv_iload_n hx hb dX1_shownBy_12 rfl (lv_at hl 1 rfl) ?_
    refine kPi (va_runSN (As := [.ref ap, .int x]) (rest := []) ⟨hx, hb, hml, hown, hts⟩ (c_X3_at l D cI cS ap 6 pl x (by decide)) ⟨va_cnB 2 hts gX1_shownBy_X3_at_n31 rfl rfl rfl (hK.2.at 7 (q := (RX1, 31, yX3_at, "LieNights")) rfl) (hts _ (List.mem_of_getElem? (i := 8) rfl)) q_X3_at.2 ⟨Nat.le_of_ble_eq_true rfl, Nat.le_of_ble_eq_true rfl⟩, hts _ (List.mem_of_getElem? (i := 7) rfl), trivial⟩ (kPS hK hP [2] rfl [.ref ap, .int x]) rfl rfl hl.1 rfl (lv_room (Nat.le_of_ble_eq_true rfl)) dX1_shownBy_13 ⟨Nat.zero_le _, Nat.zero_le _⟩) ?_
    refine lv_aload_n hx hb dX1_shownBy_16 rfl (lv_at hl 0 rfl) ?_
    refine va_get (D := D) (ci := 1) (v := .ref ap) (C := RX1) (T := TX1) (N := 6) hx hb hts (fun _ h => List.mem_cons_of_mem _ (List.mem_append_right _ h)) hown hK.1 hP 0 rfl rfl 1 (by decide) (hts (.fieldLink RX1 15 "LieNights$Secret" "places" "[I") (List.mem_of_getElem? (i := 1) rfl)) (fun _ h9 => h9) rfl dX1_shownBy_17 ?_
    refine lv_iload_n hx hb dX1_shownBy_20 rfl (lv_at hl 2 rfl) ?_
    refine kPi (va_runSN (As := [.ref ap, .int t]) (rest := [.int (fX3_at 6 pl x)]) ⟨hx, hb, hml, hown, hts⟩ (c_X3_at l D cI cS ap 6 pl t (by decide)) ⟨va_cnB 2 hts gX1_shownBy_X3_at_n31 rfl rfl rfl (hK.2.at 7 (q := (RX1, 31, yX3_at, "LieNights")) rfl) (hts _ (List.mem_of_getElem? (i := 8) rfl)) q_X3_at.2 ⟨Nat.le_of_ble_eq_true rfl, Nat.le_of_ble_eq_true rfl⟩, hts _ (List.mem_of_getElem? (i := 7) rfl), trivial⟩ (kPS hK hP [2] rfl [.ref ap, .int t]) rfl rfl hl.1 rfl (lv_room (Nat.le_of_ble_eq_true rfl)) dX1_shownBy_21 ⟨Nat.zero_le _, Nat.zero_le _⟩) ?_
    refine lv_isub hx hb dX1_shownBy_24 ?_
    refine va_mabs hx hb (hml.trans hl.1.symm) hown (hts (.methodLink RX1 39 Lib.Math.abs.name) (List.mem_of_getElem? (i := 2) rfl)) (hts (.static Lib.Math.abs.name) (List.mem_of_getElem? (i := 3) rfl)) (hts (.initialized "java/lang/Math") (List.mem_of_getElem? (i := 4) rfl)) (hts (.code Lib.Math.abs.name Lib.Math.abs.code 1 (some .int)) (List.mem_of_getElem? (i := 5) rfl)) (Nat.le_of_ble_eq_true rfl) (Nat.le_of_ble_eq_true rfl) (Nat.zero_le _) (Nat.zero_le _) dX1_shownBy_25 ?_
    refine lv_istore_n (lv' := [(3, .int (if 0 ≤ ((fX3_at 6 pl x) - (fX3_at 6 pl t)) then ((fX3_at 6 pl x) - (fX3_at 6 pl t)) else 0 - ((fX3_at 6 pl x) - (fX3_at 6 pl t)))), (0, .ref h), (1, .int x), (2, .int t)]) hx hb dX1_shownBy_28 rfl hl (by decide) rfl (fun ls hl => ?_)
    refine lv_aload_n hx hb dX1_shownBy_29 rfl (lv_at hl 1 rfl) ?_
    refine va_get (D := D) (ci := 1) (v := .ref ak) (C := RX1) (T := TX1) (N := 6) hx hb hts (fun _ h => List.mem_cons_of_mem _ (List.mem_append_right _ h)) hown hK.1 hP 0 rfl rfl 0 (by decide) (hts (.fieldLink RX1 11 "LieNights$Secret" "kinds" "[I") (List.mem_of_getElem? (i := 6) rfl)) (fun _ h9 => h9) rfl dX1_shownBy_30 ?_
    refine lv_iload_n hx hb dX1_shownBy_33 rfl (lv_at hl 2 rfl) ?_
    refine kPi (va_runSN (As := [.ref ak, .int x]) (rest := []) ⟨hx, hb, hml, hown, hts⟩ (c_X3_at l D cI cS ak 6 kd x (by decide)) ⟨va_cnB 2 hts gX1_shownBy_X3_at_n31 rfl rfl rfl (hK.2.at 7 (q := (RX1, 31, yX3_at, "LieNights")) rfl) (hts _ (List.mem_of_getElem? (i := 8) rfl)) q_X3_at.2 ⟨Nat.le_of_ble_eq_true rfl, Nat.le_of_ble_eq_true rfl⟩, hts _ (List.mem_of_getElem? (i := 7) rfl), trivial⟩ (kPS hK hP [1] rfl [.ref ak, .int x]) rfl rfl hl.1 rfl (lv_room (Nat.le_of_ble_eq_true rfl)) dX1_shownBy_34 ⟨Nat.zero_le _, Nat.zero_le _⟩) ?_
    by_cases c37_1 : (fX3_at 6 kd x) = 1
    · skip
      refine lv_lookup (tgt := 64) (off := 27) hx hb dX1_shownBy_37 (by decide) (by rw [c37_1]; decide) (by decide) ?_
      refine lv_iload_n hx hb dX1_shownBy_64 rfl (lv_at hl 0 rfl) ?_
      refine lv_iconst (v := 1) hx hb dX1_shownBy_65 (by decide) ?_
      refine lv_iadd hx hb dX1_shownBy_66 ?_
      have hR1 : (fX1_shownBy kd pl x t) = ((if 0 ≤ ((fX3_at 6 pl x) - (fX3_at 6 pl t)) then ((fX3_at 6 pl x) - (fX3_at 6 pl t)) else 0 - ((fX3_at 6 pl x) - (fX3_at 6 pl t))) + 1) := (by unfold fX1_shownBy; rw [if_neg c2, if_pos c37_1])
      rw [hQ]
      exact W.iret (v := ((if 0 ≤ ((fX3_at 6 pl x) - (fX3_at 6 pl t)) then ((fX3_at 6 pl x) - (fX3_at 6 pl t)) else 0 - ((fX3_at 6 pl x) - (fX3_at 6 pl t))) + 1)) hx hb hr (fun t ht hW => ⟨_, rfl, hR1.symm, ht⟩) (fun q h => by cases h) dX1_shownBy_67
    by_cases c37_2 : (fX3_at 6 kd x) = 2
    · skip
      refine lv_lookup (tgt := 68) (off := 31) hx hb dX1_shownBy_37 (by decide) (by rw [c37_2]; decide) (by decide) ?_
      refine lv_iload_n hx hb dX1_shownBy_68 rfl (lv_at hl 0 rfl) ?_
      refine lv_iconst (v := 2) hx hb dX1_shownBy_69 (by decide) ?_
      refine lv_idiv hx hb dX1_shownBy_70 (by decide) ?_
      have hR2 : (fX1_shownBy kd pl x t) = ((if 0 ≤ ((fX3_at 6 pl x) - (fX3_at 6 pl t)) then ((fX3_at 6 pl x) - (fX3_at 6 pl t)) else 0 - ((fX3_at 6 pl x) - (fX3_at 6 pl t))) / 2) := (by unfold fX1_shownBy; rw [if_neg c2, if_neg c37_1, if_pos c37_2])
      rw [hQ]
      exact W.iret (v := ((if 0 ≤ ((fX3_at 6 pl x) - (fX3_at 6 pl t)) then ((fX3_at 6 pl x) - (fX3_at 6 pl t)) else 0 - ((fX3_at 6 pl x) - (fX3_at 6 pl t))) / 2)) hx hb hr (fun t ht hW => ⟨_, rfl, hR2.symm, ht⟩) (fun q h => by cases h) dX1_shownBy_71
    refine lv_lookup (tgt := 72) (off := 35) hx hb dX1_shownBy_37 (by decide) (by rw [lv_osw (k := 1) (a := 1) c37_1 rfl, lv_osw (k := 2) (a := 2) c37_2 rfl]; rfl) (by decide) ?_
    refine lv_iload_n hx hb dX1_shownBy_72 rfl (lv_at hl 0 rfl) ?_
    have hR3 : (fX1_shownBy kd pl x t) = (if 0 ≤ ((fX3_at 6 pl x) - (fX3_at 6 pl t)) then ((fX3_at 6 pl x) - (fX3_at 6 pl t)) else 0 - ((fX3_at 6 pl x) - (fX3_at 6 pl t))) := (by unfold fX1_shownBy; rw [if_neg c2, if_neg c37_1, if_neg c37_2])
    rw [hQ]
    exact W.iret (v := (if 0 ≤ ((fX3_at 6 pl x) - (fX3_at 6 pl t)) then ((fX3_at 6 pl x) - (fX3_at 6 pl t)) else 0 - ((fX3_at 6 pl x) - (fX3_at 6 pl t)))) hx hb hr (fun t ht hW => ⟨_, rfl, hR3.symm, ht⟩) (fun q h => by cases h) dX1_shownBy_73
  refine lv_bipush (v := (-9)) hx hb dX1_shownBy_5 (by decide) ?_
  have hR4 : (fX1_shownBy kd pl x t) = (-9) := (by unfold fX1_shownBy; rw [if_pos c2])
  rw [hQ]
  exact W.iret (v := (-9)) hx hb hr (fun t ht hW => ⟨_, rfl, hR4.symm, ht⟩) (fun q h => by cases h) dX1_shownBy_7

def aX1_alike_13 (v4_13 : Int32) : Int32 := v4_13
def sX1_alike_13 (kd pl : Nat → Int32) (x t : Int32) (k13 : Nat) (v4_13 : Int32) : (Int32) := (if (fX1_shownBy kd pl x (nI k13)) = (fX1_shownBy kd pl x t) then (v4_13 ||| (1 <<< ((nI k13) &&& 31))) else v4_13)
def fX1_alike (kd pl : Nat → Int32) (N : Nat) (x t : Int32) : Int32 := (aX1_alike_13  (lp (fun k a => sX1_alike_13 kd pl x t k a) 0 N))
theorem q_X1_alike : yX1_alike.cls = RX1 ∧ yX1_alike.cls ≠ "java/lang/invoke/MethodHandle" ∧ yX1_alike.cls ≠ "java/lang/invoke/VarHandle" ∧ (parseMethodDescriptor yX1_alike.desc).map (fun d => d.parameters.length) = some 2 := by decide +kernel
set_option maxHeartbeats 4000000 in
set_option maxRecDepth 100000 in
theorem c_X1_alike (l : Launch) (D : va_G) (cI cS : ClassId) (h ak ap aw : Nat) (an pn gr : Int32) (kd pl wt : Nat → Int32) (N : Nat) (x t : Int32) (ha : an = nI N) (hN : N ≤ 6) : PMi l yX1_alike wsX1_alike { frames := 2, cells := 0, slots := 0, locals := 44 } D cI cS (wSec cI h ak ap aw an pn gr kd pl wt) [.ref h, .int x, .int t] (fX1_alike kd pl N x t) := by
  refine kEnter (cc := cX1_alike) (maxL := 6) (ret := (some .int)) (by decide) rfl (Nat.le_of_ble_eq_true rfl) ?_
  intro p e s m below meth c ls Qf hQ hx hb hml hr hlocks hown hts hK hP hl
  have hown : s.vm.findClass RX1 = some m.cls := hown
  have hl : lv_has ls 6 [(0, .ref h), (1, .int x), (2, .int t)] := hl
  refine lv_aload_n hx hb dX1_alike_0 rfl (lv_at hl 0 rfl) ?_
  refine lv_iload_n hx hb dX1_alike_1 rfl (lv_at hl 1 rfl) ?_
  refine lv_iload_n hx hb dX1_alike_2 rfl (lv_at hl 2 rfl) ?_
  refine kPi (va_runV (As := [.int x, .int t]) (rest := []) ⟨hx, hb, hml, hown, hts⟩ (c_X1_shownBy l D cI cS h ak ap aw an pn gr kd pl wt x t) (cwV 2 hts gX1_alike_X1_shownBy rfl rfl rfl q_X1_shownBy ⟨Nat.le_of_ble_eq_true rfl, Nat.le_of_ble_eq_true rfl⟩) (kPV hK hP [0, 1, 2, 3] rfl (va_recv hK.1 hP (ci := 1) (q0 := 0) rfl rfl) [.int x, .int t]) rfl rfl hl.1 rfl (lv_room (Nat.le_of_ble_eq_true rfl)) dX1_alike_3 ⟨Nat.zero_le _, Nat.zero_le _⟩) ?_
  refine lv_istore_n (lv' := [(3, .int (fX1_shownBy kd pl x t)), (0, .ref h), (1, .int x), (2, .int t)]) hx hb dX1_alike_6 rfl hl (by decide) rfl (fun ls hl => ?_)
  refine lv_iconst (v := 0) hx hb dX1_alike_7 (by decide) ?_
  refine lv_istore (lv' := [(4, .int 0), (3, .int (fX1_shownBy kd pl x t)), (0, .ref h), (1, .int x), (2, .int t)]) hx hb dX1_alike_8 hl (by decide) rfl (fun ls hl => ?_)
  refine lv_iconst (v := 0) hx hb dX1_alike_10 (by decide) ?_
  refine lv_istore (lv' := [(5, .int 0), (4, .int 0), (3, .int (fX1_shownBy kd pl x t)), (0, .ref h), (1, .int x), (2, .int t)]) hx hb dX1_alike_11 hl (by decide) rfl (fun ls hl => ?_)
  have hR1 : (fX1_alike kd pl N x t) = (aX1_alike_13  (lp (fun k a => sX1_alike_13 kd pl x t k a) 0 N)) := rfl
  have loop13 : ∀ (n k13 : Nat), k13 ≤ N → N + 1 ≤ k13 + n → ∀ (v4_13 : Int32), lp (fun k a => sX1_alike_13 kd pl x t k a) 0 k13 = v4_13 →  ∀ (ls : Array Slot), lv_has ls 6 [(0, .ref h), (1, .int x), (2, .int t), (3, .int (fX1_shownBy kd pl x t)), (4, .int v4_13), (5, .int (nI k13))] → W p l e { frames := 2, cells := 0, slots := 0, locals := 44 } s m ([.ref h, .int x, .int t] : List Value).toArray below meth c s.heap [] 0 0 Qf (F0 m 13 ls []) := by
    intro n
    induction n with
    | zero => intro k13 h1 h2; exact absurd h2 (by omega)
    | succ n ih =>
      intro k13 hk13 hn13 v4_13 hacc13  ls hl
      have ih13 := ih
      refine lv_iload hx hb dX1_alike_13 (lv_at hl 5 rfl) ?_
      refine lv_aload_n hx hb dX1_alike_15 rfl (lv_at hl 0 rfl) ?_
      refine va_get (D := D) (ci := 1) (v := .int an) (C := RX1) (T := TX1) (N := 6) hx hb hts (fun _ h => List.mem_cons_of_mem _ (List.mem_append_right _ h)) hown hK.1 hP 0 rfl rfl 3 (by decide) (hts (.fieldLink RX1 21 "LieNights$Secret" "answers" "I") (List.mem_of_getElem? (i := 1) rfl)) (fun _ h9 => h9) rfl dX1_alike_16 ?_
      refine lv_icmp_ge (tgt := 48) hx hb dX1_alike_19 (by decide) (fun c19 => ?_) (fun c19 => ?_)
      · skip
        have hkN : k13 = N := (kEnd hk13 rfl ha (by omega) c19)
        rw [hkN] at hacc13
        have hR2 : (fX1_alike kd pl N x t) = aX1_alike_13  v4_13 := hR1.trans (lp_end (x := v4_13) (g := (fun a => aX1_alike_13  a)) hacc13)
        refine lv_iload hx hb dX1_alike_48 (lv_at hl 4 rfl) ?_
        have hR3 : (fX1_alike kd pl N x t) = v4_13 := hR2.trans rfl
        rw [hQ]
        exact W.iret (v := v4_13) hx hb hr (fun t ht hW => ⟨_, rfl, hR3.symm, ht⟩) (fun q h => by cases h) dX1_alike_50
      have hlt13 : k13 < N := (kLt hk13 rfl ha c19)
      refine lv_aload_n hx hb dX1_alike_22 rfl (lv_at hl 0 rfl) ?_
      refine lv_iload_n hx hb dX1_alike_23 rfl (lv_at hl 1 rfl) ?_
      refine lv_iload hx hb dX1_alike_24 (lv_at hl 5 rfl) ?_
      refine kPi (va_runV (As := [.int x, .int (nI k13)]) (rest := []) ⟨hx, hb, hml, hown, hts⟩ (c_X1_shownBy l D cI cS h ak ap aw an pn gr kd pl wt x (nI k13)) (cwV 2 hts gX1_alike_X1_shownBy rfl rfl rfl q_X1_shownBy ⟨Nat.le_of_ble_eq_true rfl, Nat.le_of_ble_eq_true rfl⟩) (kPV hK hP [0, 1, 2, 3] rfl (va_recv hK.1 hP (ci := 1) (q0 := 0) rfl rfl) [.int x, .int (nI k13)]) rfl rfl hl.1 rfl (lv_room (Nat.le_of_ble_eq_true rfl)) dX1_alike_26 ⟨Nat.zero_le _, Nat.zero_le _⟩) ?_
      refine lv_iload_n hx hb dX1_alike_29 rfl (lv_at hl 3 rfl) ?_
      refine lv_icmp_ne (tgt := 42) hx hb dX1_alike_30 (by decide) (fun c30 => ?_) (fun c30 => ?_)
      · skip
        refine lv_iinc (v := (nI (k13 + 1))) (lv' := [(5, .int (nI (k13 + 1))), (0, .ref h), (1, .int x), (2, .int t), (3, .int (fX1_shownBy kd pl x t)), (4, .int v4_13)]) hx hb dX1_alike_42 hl (k := 5) rfl (nI_1 (k13)) (by decide) rfl (fun ls hl => ?_)
        refine lv_goto (tgt := 13) hx hb dX1_alike_45 (by decide) ?_
        have hR4 : sX1_alike_13 kd pl x t k13 v4_13 = v4_13 := (by unfold sX1_alike_13; rw [if_neg c30])
        exact ih13 (k13 + 1) hlt13 (by omega) _ (lp_next hacc13 hR4)  ls (lv_sub hl [1, 2, 3, 4, 5, 0] rfl)
      refine lv_iload hx hb dX1_alike_33 (lv_at hl 4 rfl) ?_
      refine lv_iconst (v := 1) hx hb dX1_alike_35 (by decide) ?_
      refine lv_iload hx hb dX1_alike_36 (lv_at hl 5 rfl) ?_
      refine lv_ishl hx hb dX1_alike_38 ?_
      refine lv_ior hx hb dX1_alike_39 ?_
      refine lv_istore (lv' := [(4, .int (v4_13 ||| (1 <<< ((nI k13) &&& 31)))), (0, .ref h), (1, .int x), (2, .int t), (3, .int (fX1_shownBy kd pl x t)), (5, .int (nI k13))]) hx hb dX1_alike_40 hl (by decide) rfl (fun ls hl => ?_)
      refine lv_iinc (v := (nI (k13 + 1))) (lv' := [(5, .int (nI (k13 + 1))), (4, .int (v4_13 ||| (1 <<< ((nI k13) &&& 31)))), (0, .ref h), (1, .int x), (2, .int t), (3, .int (fX1_shownBy kd pl x t))]) hx hb dX1_alike_42 hl (k := 5) rfl (nI_1 (k13)) (by decide) rfl (fun ls hl => ?_)
      refine lv_goto (tgt := 13) hx hb dX1_alike_45 (by decide) ?_
      have hR5 : sX1_alike_13 kd pl x t k13 v4_13 = (v4_13 ||| (1 <<< ((nI k13) &&& 31))) := (by unfold sX1_alike_13; rw [if_pos c30])
      exact ih13 (k13 + 1) hlt13 (by omega) _ (lp_next hacc13 hR5)  ls (lv_sub hl [2, 3, 4, 5, 1, 0] rfl)
  exact loop13 (N + 1) 0 (Nat.zero_le _) (by omega) _ rfl  ls (lv_sub hl [3, 4, 5, 2, 1, 0] rfl)

def fX2_isNothing (la : Int32) : Int32 := (if la = (-1) then 1 else 0)
theorem q_X2_isNothing : yX2_isNothing.cls = RX2 ∧ yX2_isNothing.cls ≠ "java/lang/invoke/MethodHandle" ∧ yX2_isNothing.cls ≠ "java/lang/invoke/VarHandle" ∧ (parseMethodDescriptor yX2_isNothing.desc).map (fun d => d.parameters.length) = some 0 := by decide +kernel
set_option maxHeartbeats 4000000 in
set_option maxRecDepth 100000 in
theorem c_X2_isNothing (l : Launch) (D : va_G) (cI cS : ClassId) (h ac : Nat) (la le : Int32) (ce : Nat → Int32)  : PMi l yX2_isNothing wsX2_isNothing { frames := 0, cells := 0, slots := 0, locals := 0 } D cI cS (wSh cI h ac la le ce) [.ref h] (fX2_isNothing la) := by
  refine kEnter (cc := cX2_isNothing) (maxL := 1) (ret := (some .boolean)) (by decide) rfl (Nat.le_of_ble_eq_true rfl) ?_
  intro p e s m below meth c ls Qf hQ hx hb hml hr hlocks hown hts hK hP hl
  have hown : s.vm.findClass RX2 = some m.cls := hown
  have hl : lv_has ls 1 [(0, .ref h)] := hl
  refine lv_aload_n hx hb dX2_isNothing_0 rfl (lv_at hl 0 rfl) ?_
  refine va_get (D := D) (ci := 2) (v := .int la) (C := RX2) (T := TX2) (N := 3) hx hb hts (fun _ h => List.mem_cons_of_mem _ (List.mem_append_right _ h)) hown hK.1 hP 0 rfl rfl 1 (by decide) (hts (.fieldLink RX2 15 "LieNights$Sheet" "lane" "I") (List.mem_of_getElem? (i := 1) rfl)) (fun _ h9 => h9) rfl dX2_isNothing_1 ?_
  refine lv_iconst (v := (-1)) hx hb dX2_isNothing_4 (by decide) ?_
  refine lv_icmp_ne (tgt := 12) hx hb dX2_isNothing_5 (by decide) (fun c5 => ?_) (fun c5 => ?_)
  · skip
    refine lv_iconst (v := 0) hx hb dX2_isNothing_12 (by decide) ?_
    have hR1 : (fX2_isNothing la) = 0 := (by unfold fX2_isNothing; rw [if_neg c5])
    rw [hQ]
    exact W.zret (v := 0) (ty := .boolean) hx hb hr rfl (fun t ht hW => ⟨_, rfl, hR1.symm, ht⟩) (fun q h => by cases h) dX2_isNothing_13
  refine lv_iconst (v := 1) hx hb dX2_isNothing_8 (by decide) ?_
  refine lv_goto (tgt := 13) hx hb dX2_isNothing_9 (by decide) ?_
  have hR2 : (fX2_isNothing la) = 1 := (by unfold fX2_isNothing; rw [if_pos c5])
  rw [hQ]
  exact W.zret (v := 1) (ty := .boolean) hx hb hr rfl (fun t ht hW => ⟨_, rfl, hR2.symm, ht⟩) (fun q h => by cases h) dX2_isNothing_13

def fX2_isLikeLane (la la2 : Int32) : Int32 := (if la = la2 then 1 else 0)
theorem q_X2_isLikeLane : yX2_isLikeLane.cls = RX2 ∧ yX2_isLikeLane.cls ≠ "java/lang/invoke/MethodHandle" ∧ yX2_isLikeLane.cls ≠ "java/lang/invoke/VarHandle" ∧ (parseMethodDescriptor yX2_isLikeLane.desc).map (fun d => d.parameters.length) = some 1 := by decide +kernel
set_option maxHeartbeats 4000000 in
set_option maxRecDepth 100000 in
theorem c_X2_isLikeLane (l : Launch) (D : va_G) (cI cS : ClassId) (h ac : Nat) (la le : Int32) (ce : Nat → Int32) (h2 ac2 : Nat) (la2 le2 : Int32) (ce2 : Nat → Int32)  : PMi l yX2_isLikeLane wsX2_isLikeLane { frames := 0, cells := 0, slots := 0, locals := 0 } D cI cS (wSh2 cI h ac la le ce h2 ac2 la2 le2 ce2) [.ref h, .ref h2] (fX2_isLikeLane la la2) := by
  refine kEnter (cc := cX2_isLikeLane) (maxL := 2) (ret := (some .boolean)) (by decide) rfl (Nat.le_of_ble_eq_true rfl) ?_
  intro p e s m below meth c ls Qf hQ hx hb hml hr hlocks hown hts hK hP hl
  have hown : s.vm.findClass RX2 = some m.cls := hown
  have hl : lv_has ls 2 [(0, .ref h), (1, .ref h2)] := hl
  refine lv_aload_n hx hb dX2_isLikeLane_0 rfl (lv_at hl 0 rfl) ?_
  refine va_get (D := D) (ci := 2) (v := .int la) (C := RX2) (T := TX2) (N := 3) hx hb hts (fun _ h => List.mem_cons_of_mem _ (List.mem_append_right _ h)) hown hK.1 hP 0 rfl rfl 1 (by decide) (hts (.fieldLink RX2 15 "LieNights$Sheet" "lane" "I") (List.mem_of_getElem? (i := 1) rfl)) (fun _ h9 => h9) rfl dX2_isLikeLane_1 ?_
  refine lv_aload_n hx hb dX2_isLikeLane_4 rfl (lv_at hl 1 rfl) ?_
  refine va_get (D := D) (ci := 2) (v := .int la2) (C := RX2) (T := TX2) (N := 3) hx hb hts (fun _ h => List.mem_cons_of_mem _ (List.mem_append_right _ h)) hown hK.1 hP 2 rfl rfl 1 (by decide) (hts (.fieldLink RX2 15 "LieNights$Sheet" "lane" "I") (List.mem_of_getElem? (i := 1) rfl)) (fun _ h9 => h9) rfl dX2_isLikeLane_5 ?_
  refine lv_icmp_ne (tgt := 15) hx hb dX2_isLikeLane_8 (by decide) (fun c8 => ?_) (fun c8 => ?_)
  · skip
    refine lv_iconst (v := 0) hx hb dX2_isLikeLane_15 (by decide) ?_
    have hR1 : (fX2_isLikeLane la la2) = 0 := (by unfold fX2_isLikeLane; rw [if_neg c8])
    rw [hQ]
    exact W.zret (v := 0) (ty := .boolean) hx hb hr rfl (fun t ht hW => ⟨_, rfl, hR1.symm, ht⟩) (fun q h => by cases h) dX2_isLikeLane_16
  refine lv_iconst (v := 1) hx hb dX2_isLikeLane_11 (by decide) ?_
  refine lv_goto (tgt := 16) hx hb dX2_isLikeLane_12 (by decide) ?_
  have hR2 : (fX2_isLikeLane la la2) = 1 := (by unfold fX2_isLikeLane; rw [if_pos c8])
  rw [hQ]
  exact W.zret (v := 1) (ty := .boolean) hx hb hr rfl (fun t ht hW => ⟨_, rfl, hR2.symm, ht⟩) (fun q h => by cases h) dX2_isLikeLane_16

def fX2_isLikeLane_a (la : Int32) : Int32 := (if la = la then 1 else 0)
set_option maxHeartbeats 4000000 in
set_option maxRecDepth 100000 in
theorem c_X2_isLikeLane_a (l : Launch) (D : va_G) (cI cS : ClassId) (h ac : Nat) (la le : Int32) (ce : Nat → Int32)  : PMi l yX2_isLikeLane wsX2_isLikeLane { frames := 0, cells := 0, slots := 0, locals := 0 } D cI cS (wSh cI h ac la le ce) [.ref h, .ref h] (fX2_isLikeLane_a la) := by
  refine kEnter (cc := cX2_isLikeLane) (maxL := 2) (ret := (some .boolean)) (by decide) rfl (Nat.le_of_ble_eq_true rfl) ?_
  intro p e s m below meth c ls Qf hQ hx hb hml hr hlocks hown hts hK hP hl
  have hown : s.vm.findClass RX2 = some m.cls := hown
  have hl : lv_has ls 2 [(0, .ref h), (1, .ref h)] := hl
  refine lv_aload_n hx hb dX2_isLikeLane_0 rfl (lv_at hl 0 rfl) ?_
  refine va_get (D := D) (ci := 2) (v := .int la) (C := RX2) (T := TX2) (N := 3) hx hb hts (fun _ h => List.mem_cons_of_mem _ (List.mem_append_right _ h)) hown hK.1 hP 0 rfl rfl 1 (by decide) (hts (.fieldLink RX2 15 "LieNights$Sheet" "lane" "I") (List.mem_of_getElem? (i := 1) rfl)) (fun _ h9 => h9) rfl dX2_isLikeLane_1 ?_
  refine lv_aload_n hx hb dX2_isLikeLane_4 rfl (lv_at hl 1 rfl) ?_
  refine va_get (D := D) (ci := 2) (v := .int la) (C := RX2) (T := TX2) (N := 3) hx hb hts (fun _ h => List.mem_cons_of_mem _ (List.mem_append_right _ h)) hown hK.1 hP 0 rfl rfl 1 (by decide) (hts (.fieldLink RX2 15 "LieNights$Sheet" "lane" "I") (List.mem_of_getElem? (i := 1) rfl)) (fun _ h9 => h9) rfl dX2_isLikeLane_5 ?_
  refine lv_icmp_ne (tgt := 15) hx hb dX2_isLikeLane_8 (by decide) (fun c8 => ?_) (fun c8 => ?_)
  · skip
    refine lv_iconst (v := 0) hx hb dX2_isLikeLane_15 (by decide) ?_
    have hR1 : (fX2_isLikeLane_a la) = 0 := (by unfold fX2_isLikeLane_a; rw [if_neg c8])
    rw [hQ]
    exact W.zret (v := 0) (ty := .boolean) hx hb hr rfl (fun t ht hW => ⟨_, rfl, hR1.symm, ht⟩) (fun q h => by cases h) dX2_isLikeLane_16
  refine lv_iconst (v := 1) hx hb dX2_isLikeLane_11 (by decide) ?_
  refine lv_goto (tgt := 16) hx hb dX2_isLikeLane_12 (by decide) ?_
  have hR2 : (fX2_isLikeLane_a la) = 1 := (by unfold fX2_isLikeLane_a; rw [if_pos c8])
  rw [hQ]
  exact W.zret (v := 1) (ty := .boolean) hx hb hr rfl (fun t ht hW => ⟨_, rfl, hR2.symm, ht⟩) (fun q h => by cases h) dX2_isLikeLane_16

def fX2_faultAs (la wa : Int32) : Int32 := (if (fX2_isNothing la) = 0 then (if la = wa then 0 else 2) else 1)
theorem q_X2_faultAs : yX2_faultAs.cls = RX2 ∧ yX2_faultAs.cls ≠ "java/lang/invoke/MethodHandle" ∧ yX2_faultAs.cls ≠ "java/lang/invoke/VarHandle" ∧ (parseMethodDescriptor yX2_faultAs.desc).map (fun d => d.parameters.length) = some 1 := by decide +kernel
set_option maxHeartbeats 4000000 in
set_option maxRecDepth 100000 in
theorem c_X2_faultAs (l : Launch) (D : va_G) (cI cS : ClassId) (h ac : Nat) (la le : Int32) (ce : Nat → Int32) (wa : Int32)  : PMi l yX2_faultAs wsX2_faultAs { frames := 1, cells := 0, slots := 0, locals := 20 } D cI cS (wSh cI h ac la le ce) [.ref h, .int wa] (fX2_faultAs la wa) := by
  refine kEnter (cc := cX2_faultAs) (maxL := 2) (ret := (some .int)) (by decide) rfl (Nat.le_of_ble_eq_true rfl) ?_
  intro p e s m below meth c ls Qf hQ hx hb hml hr hlocks hown hts hK hP hl
  have hown : s.vm.findClass RX2 = some m.cls := hown
  have hl : lv_has ls 2 [(0, .ref h), (1, .int wa)] := hl
  refine lv_aload_n hx hb dX2_faultAs_0 rfl (lv_at hl 0 rfl) ?_
  refine kPi (va_runV (As := []) (rest := []) ⟨hx, hb, hml, hown, hts⟩ (c_X2_isNothing l D cI cS h ac la le ce) (cwV 0 hts gX2_faultAs_X2_isNothing rfl rfl rfl q_X2_isNothing ⟨Nat.le_of_ble_eq_true rfl, Nat.le_of_ble_eq_true rfl⟩) (kPV hK hP [0, 1] rfl (va_recv hK.1 hP (ci := 2) (q0 := 0) rfl rfl) []) rfl rfl hl.1 rfl (lv_room (Nat.le_of_ble_eq_true rfl)) dX2_faultAs_1 ⟨Nat.zero_le _, Nat.zero_le _⟩) ?_
  refine lv_if_eq (tgt := 9) hx hb dX2_faultAs_4 (by decide) (fun c4 => ?_) (fun c4 => ?_)
  · skip
    refine lv_aload_n hx hb dX2_faultAs_9 rfl (lv_at hl 0 rfl) ?_
    refine va_get (D := D) (ci := 2) (v := .int la) (C := RX2) (T := TX2) (N := 3) hx hb hts (fun _ h => List.mem_cons_of_mem _ (List.mem_append_right _ h)) hown hK.1 hP 0 rfl rfl 1 (by decide) (hts (.fieldLink RX2 15 "LieNights$Sheet" "lane" "I") (List.mem_of_getElem? (i := 1) rfl)) (fun _ h9 => h9) rfl dX2_faultAs_10 ?_
    refine lv_iload_n hx hb dX2_faultAs_13 rfl (lv_at hl 1 rfl) ?_
    refine lv_icmp_ne (tgt := 21) hx hb dX2_faultAs_14 (by decide) (fun c14 => ?_) (fun c14 => ?_)
    · skip
      refine lv_iconst (v := 2) hx hb dX2_faultAs_21 (by decide) ?_
      have hR1 : (fX2_faultAs la wa) = 2 := (by unfold fX2_faultAs; rw [if_pos c4, if_neg c14])
      rw [hQ]
      exact W.iret (v := 2) hx hb hr (fun t ht hW => ⟨_, rfl, hR1.symm, ht⟩) (fun q h => by cases h) dX2_faultAs_22
    refine lv_iconst (v := 0) hx hb dX2_faultAs_17 (by decide) ?_
    refine lv_goto (tgt := 22) hx hb dX2_faultAs_18 (by decide) ?_
    have hR2 : (fX2_faultAs la wa) = 0 := (by unfold fX2_faultAs; rw [if_pos c4, if_pos c14])
    rw [hQ]
    exact W.iret (v := 0) hx hb hr (fun t ht hW => ⟨_, rfl, hR2.symm, ht⟩) (fun q h => by cases h) dX2_faultAs_22
  refine lv_iconst (v := 1) hx hb dX2_faultAs_7 (by decide) ?_
  have hR3 : (fX2_faultAs la wa) = 1 := (by unfold fX2_faultAs; rw [if_neg c4])
  rw [hQ]
  exact W.iret (v := 1) hx hb hr (fun t ht hW => ⟨_, rfl, hR3.symm, ht⟩) (fun q h => by cases h) dX2_faultAs_8

def fX2_hasCells (le i nn : Int32) : Int32 := (if (fX3_within i le) = 0 then 0 else (if (fX3_within nn (le - i)) = 0 then 0 else 1))
theorem q_X2_hasCells : yX2_hasCells.cls = RX2 ∧ yX2_hasCells.cls ≠ "java/lang/invoke/MethodHandle" ∧ yX2_hasCells.cls ≠ "java/lang/invoke/VarHandle" ∧ (parseMethodDescriptor yX2_hasCells.desc).map (fun d => d.parameters.length) = some 2 := by decide +kernel
set_option maxHeartbeats 4000000 in
set_option maxRecDepth 100000 in
theorem c_X2_hasCells (l : Launch) (D : va_G) (cI cS : ClassId) (h ac : Nat) (la le : Int32) (ce : Nat → Int32) (i nn : Int32)  : PMi l yX2_hasCells wsX2_hasCells { frames := 1, cells := 0, slots := 0, locals := 21 } D cI cS (wSh cI h ac la le ce) [.ref h, .int i, .int nn] (fX2_hasCells le i nn) := by
  refine kEnter (cc := cX2_hasCells) (maxL := 3) (ret := (some .boolean)) (by decide) rfl (Nat.le_of_ble_eq_true rfl) ?_
  intro p e s m below meth c ls Qf hQ hx hb hml hr hlocks hown hts hK hP hl
  have hown : s.vm.findClass RX2 = some m.cls := hown
  have hl : lv_has ls 3 [(0, .ref h), (1, .int i), (2, .int nn)] := hl
  refine lv_iload_n hx hb dX2_hasCells_0 rfl (lv_at hl 1 rfl) ?_
  refine lv_aload_n hx hb dX2_hasCells_1 rfl (lv_at hl 0 rfl) ?_
  refine va_get (D := D) (ci := 2) (v := .int le) (C := RX2) (T := TX2) (N := 3) hx hb hts (fun _ h => List.mem_cons_of_mem _ (List.mem_append_right _ h)) hown hK.1 hP 0 rfl rfl 2 (by decide) (hts (.fieldLink RX2 23 "LieNights$Sheet" "length" "I") (List.mem_of_getElem? (i := 1) rfl)) (fun _ h9 => h9) rfl dX2_hasCells_2 ?_
  refine kPi (va_runSN (As := [.int i, .int le]) (rest := []) ⟨hx, hb, hml, hown, hts⟩ (c_X3_within l D cI cS i le) ⟨va_cnB 2 hts gX2_hasCells_X3_within_n26 rfl rfl rfl (hK.2.at 3 (q := (RX2, 26, yX3_within, "LieNights")) rfl) (hts _ (List.mem_of_getElem? (i := 3) rfl)) q_X3_within.2 ⟨Nat.le_of_ble_eq_true rfl, Nat.le_of_ble_eq_true rfl⟩, hts _ (List.mem_of_getElem? (i := 2) rfl), trivial⟩ (kPS hK hP [] rfl [.int i, .int le]) rfl rfl hl.1 rfl (lv_room (Nat.le_of_ble_eq_true rfl)) dX2_hasCells_5 ⟨Nat.zero_le _, Nat.zero_le _⟩) ?_
  refine lv_if_eq (tgt := 28) hx hb dX2_hasCells_8 (by decide) (fun c8 => ?_) (fun c8 => ?_)
  · skip
    refine lv_iconst (v := 0) hx hb dX2_hasCells_28 (by decide) ?_
    have hR1 : (fX2_hasCells le i nn) = 0 := (by unfold fX2_hasCells; rw [if_pos c8])
    rw [hQ]
    exact W.zret (v := 0) (ty := .boolean) hx hb hr rfl (fun t ht hW => ⟨_, rfl, hR1.symm, ht⟩) (fun q h => by cases h) dX2_hasCells_29
  refine lv_iload_n hx hb dX2_hasCells_11 rfl (lv_at hl 2 rfl) ?_
  refine lv_aload_n hx hb dX2_hasCells_12 rfl (lv_at hl 0 rfl) ?_
  refine va_get (D := D) (ci := 2) (v := .int le) (C := RX2) (T := TX2) (N := 3) hx hb hts (fun _ h => List.mem_cons_of_mem _ (List.mem_append_right _ h)) hown hK.1 hP 0 rfl rfl 2 (by decide) (hts (.fieldLink RX2 23 "LieNights$Sheet" "length" "I") (List.mem_of_getElem? (i := 1) rfl)) (fun _ h9 => h9) rfl dX2_hasCells_13 ?_
  refine lv_iload_n hx hb dX2_hasCells_16 rfl (lv_at hl 1 rfl) ?_
  refine lv_isub hx hb dX2_hasCells_17 ?_
  refine kPi (va_runSN (As := [.int nn, .int (le - i)]) (rest := []) ⟨hx, hb, hml, hown, hts⟩ (c_X3_within l D cI cS nn (le - i)) ⟨va_cnB 2 hts gX2_hasCells_X3_within_n26 rfl rfl rfl (hK.2.at 3 (q := (RX2, 26, yX3_within, "LieNights")) rfl) (hts _ (List.mem_of_getElem? (i := 3) rfl)) q_X3_within.2 ⟨Nat.le_of_ble_eq_true rfl, Nat.le_of_ble_eq_true rfl⟩, hts _ (List.mem_of_getElem? (i := 2) rfl), trivial⟩ (kPS hK hP [] rfl [.int nn, .int (le - i)]) rfl rfl hl.1 rfl (lv_room (Nat.le_of_ble_eq_true rfl)) dX2_hasCells_18 ⟨Nat.zero_le _, Nat.zero_le _⟩) ?_
  refine lv_if_eq (tgt := 28) hx hb dX2_hasCells_21 (by decide) (fun c21 => ?_) (fun c21 => ?_)
  · skip
    refine lv_iconst (v := 0) hx hb dX2_hasCells_28 (by decide) ?_
    have hR2 : (fX2_hasCells le i nn) = 0 := (by unfold fX2_hasCells; rw [if_neg c8, if_pos c21])
    rw [hQ]
    exact W.zret (v := 0) (ty := .boolean) hx hb hr rfl (fun t ht hW => ⟨_, rfl, hR2.symm, ht⟩) (fun q h => by cases h) dX2_hasCells_29
  refine lv_iconst (v := 1) hx hb dX2_hasCells_24 (by decide) ?_
  refine lv_goto (tgt := 29) hx hb dX2_hasCells_25 (by decide) ?_
  have hR3 : (fX2_hasCells le i nn) = 1 := (by unfold fX2_hasCells; rw [if_neg c8, if_neg c21])
  rw [hQ]
  exact W.zret (v := 1) (ty := .boolean) hx hb hr rfl (fun t ht hW => ⟨_, rfl, hR3.symm, ht⟩) (fun q h => by cases h) dX2_hasCells_29

def aX2_renew_12 (nl nn : Int32) (wce_12 : Nat → Int32) : (Int32 × Int32 × (Nat → Int32)) := (nl, nn, wce_12)
def sX2_renew_12 (k12 : Nat) (wce_12 : Nat → Int32) : ((Nat → Int32)) := (fX3_write 60 wce_12 (nI k12) 0)
def fX2_renew (ce : Nat → Int32) (Nn : Nat) (nl nn : Int32) : Int32 × Int32 × (Nat → Int32) := (aX2_renew_12 nl nn (lp (fun k a => sX2_renew_12  k a) ce Nn))
theorem q_X2_renew : yX2_renew.cls = RX2 ∧ yX2_renew.cls ≠ "java/lang/invoke/MethodHandle" ∧ yX2_renew.cls ≠ "java/lang/invoke/VarHandle" ∧ (parseMethodDescriptor yX2_renew.desc).map (fun d => d.parameters.length) = some 2 := by decide +kernel
set_option maxHeartbeats 4000000 in
set_option maxRecDepth 100000 in
theorem c_X2_renew (l : Launch) (D : va_G) (cI cS : ClassId) (h ac : Nat) (la le : Int32) (ce : Nat → Int32) (Nn : Nat) (nl nn : Int32) (hn : nn = nI Nn) (hNn : Nn ≤ 60) : MMv l yX2_renew wsX2_renew { frames := 1, cells := 0, slots := 0, locals := 22 } D cI cS (wSh cI h ac la le ce) [.ref h, .int nl, .int nn] (wSh cI h ac ((fX2_renew ce Nn nl nn).1) ((fX2_renew ce Nn nl nn).2.1) ((fX2_renew ce Nn nl nn).2.2)) := by
  refine kEnterM (cc := cX2_renew) (maxL := 4) (ret := none) (by decide) rfl (Nat.le_of_ble_eq_true rfl) ?_
  intro p e s m below meth c ls Qf hQ hx hb hml hr hlocks hown hts hK hP hD hS hl
  have hown : s.vm.findClass RX2 = some m.cls := hown
  have hl : lv_has ls 4 [(0, .ref h), (1, .int nl), (2, .int nn)] := hl
  generalize kA (wSh cI h ac la le ce) = A at hQ hD hS
  refine lv_aload_n hx hb dX2_renew_0 rfl (lv_at hl 0 rfl) ?_
  refine lv_iload_n hx hb dX2_renew_1 rfl (lv_at hl 1 rfl) ?_
  refine va_put (D := D) (ci := 2) (v := .int nl) (ty := tyX2 1) (C := RX2) (T := TX2) (N := 3) hx hb hts (fun _ h => List.mem_cons_of_mem _ (List.mem_append_right _ h)) tyX2 tyX2_ok nmX2 hown hK.1 hP hD hS 0 rfl rfl 1 (by decide) (hts (.fieldLink RX2 15 "LieNights$Sheet" "lane" "I") (List.mem_of_getElem? (i := 1) rfl)) (fun _ h9 => h9) rfl (tyX2_ok 1 (by decide)) rfl rfl (Nat.le_of_ble_eq_true rfl) dX2_renew_2 (fun H locs hP hD hS => ?_)
  have hP : va_P D vwCl (wSh cI h ac nl le ce) H := hP
  have hD : va_D A (wSh cI h ac nl le ce) := hD
  refine lv_aload_n hx hb dX2_renew_5 rfl (lv_at hl 0 rfl) ?_
  refine lv_iload_n hx hb dX2_renew_6 rfl (lv_at hl 2 rfl) ?_
  refine va_put (D := D) (ci := 2) (v := .int nn) (ty := tyX2 2) (C := RX2) (T := TX2) (N := 3) hx hb hts (fun _ h => List.mem_cons_of_mem _ (List.mem_append_right _ h)) tyX2 tyX2_ok nmX2 hown hK.1 hP hD hS 0 rfl rfl 2 (by decide) (hts (.fieldLink RX2 23 "LieNights$Sheet" "length" "I") (List.mem_of_getElem? (i := 2) rfl)) (fun _ h9 => h9) rfl (tyX2_ok 2 (by decide)) rfl rfl (Nat.le_of_ble_eq_true rfl) dX2_renew_7 (fun H locs hP hD hS => ?_)
  have hP : va_P D vwCl (wSh cI h ac nl nn ce) H := hP
  have hD : va_D A (wSh cI h ac nl nn ce) := hD
  refine lv_iconst (v := 0) hx hb dX2_renew_10 (by decide) ?_
  refine lv_istore_n (lv' := [(3, .int 0), (0, .ref h), (1, .int nl), (2, .int nn)]) hx hb dX2_renew_11 rfl hl (by decide) rfl (fun ls hl => ?_)
  have hR1 : (fX2_renew ce Nn nl nn) = (aX2_renew_12 nl nn (lp (fun k a => sX2_renew_12  k a) ce Nn)) := rfl
  have loop12 : ∀ (n k12 : Nat), k12 ≤ Nn → Nn + 1 ≤ k12 + n → ∀ (wce_12 : Nat → Int32), lp (fun k a => sX2_renew_12  k a) ce k12 = wce_12 →  ∀ (H : Heap) (locs : List Loc), va_P D vwCl (wSh cI h ac nl nn wce_12) H → va_D A (wSh cI h ac nl nn wce_12) → va_S A s.heap H locs → ∀ (ls : Array Slot), lv_has ls 4 [(0, .ref h), (1, .int nl), (2, .int nn), (3, .int (nI k12))] → W p l e { frames := 1, cells := 0, slots := 0, locals := 22 } s m ([.ref h, .int nl, .int nn] : List Value).toArray below meth c H locs 0 0 Qf (F0 m 12 ls []) := by
    intro n
    induction n with
    | zero => intro k12 h1 h2; exact absurd h2 (by omega)
    | succ n ih =>
      intro k12 hk12 hn12 wce_12 hacc12  H locs hP hD hS ls hl
      have ih12 := ih
      refine lv_iload_n hx hb dX2_renew_12 rfl (lv_at hl 3 rfl) ?_
      refine lv_iload_n hx hb dX2_renew_13 rfl (lv_at hl 2 rfl) ?_
      refine lv_icmp_ge (tgt := 32) hx hb dX2_renew_14 (by decide) (fun c14 => ?_) (fun c14 => ?_)
      · skip
        have hkN : k12 = Nn := (kEnd hk12 rfl hn (by omega) c14)
        rw [hkN] at hacc12
        have hR2 : (fX2_renew ce Nn nl nn) = aX2_renew_12 nl nn wce_12 := hR1.trans (lp_end (x := wce_12) (g := (fun a => aX2_renew_12 nl nn a)) hacc12)
        have hR3 : (fX2_renew ce Nn nl nn) = (nl, nn, wce_12) := hR2.trans rfl
        rw [hQ]
        exact W.vret hx hb hr (fun t ht hW => ⟨⟨(), rfl, trivial, (by show va_P D vwCl _ t.heap; rw [hR3, ht]; exact hP)⟩, hS.F ht⟩) hS.2.2 dX2_renew_32
      have hlt12 : k12 < Nn := (kLt hk12 rfl hn c14)
      refine lv_aload_n hx hb dX2_renew_17 rfl (lv_at hl 0 rfl) ?_
      refine va_get (D := D) (ci := 2) (v := .ref ac) (C := RX2) (T := TX2) (N := 3) hx hb hts (fun _ h => List.mem_cons_of_mem _ (List.mem_append_right _ h)) hown hK.1 hP 0 rfl rfl 0 (by decide) (hts (.fieldLink RX2 9 "LieNights$Sheet" "cells" "[I") (List.mem_of_getElem? (i := 3) rfl)) (fun _ h9 => h9) rfl dX2_renew_18 ?_
      refine lv_iload_n hx hb dX2_renew_21 rfl (lv_at hl 3 rfl) ?_
      refine lv_iconst (v := 0) hx hb dX2_renew_22 (by decide) ?_
      refine kMv (wl' := (wSh cI h ac nl nn (fX3_write 60 wce_12 (nI k12) 0))) (wc := (wArr cI ac 60 wce_12)) (w1 := (wArr cI ac 60 (fX3_write 60 wce_12 (nI k12) 0))) hP hD hS [1] rfl rfl rfl (va_runSN (As := [.ref ac, .int (nI k12), .int 0]) (rest := []) ⟨hx, hb, hml, hown, hts⟩ (c_X3_write l D cI cS ac 60 wce_12 (nI k12) 0 (by decide)) ⟨va_cnB 3 hts gX2_renew_X3_write_n30 rfl rfl rfl (hK.2.at 5 (q := (RX2, 30, yX3_write, "LieNights")) rfl) (hts _ (List.mem_of_getElem? (i := 5) rfl)) q_X3_write.2 ⟨Nat.le_of_ble_eq_true rfl, Nat.le_of_ble_eq_true rfl⟩, hts _ (List.mem_of_getElem? (i := 4) rfl), trivial⟩ (kMS hK hP hD [1] rfl rfl [.ref ac, .int (nI k12), .int 0]) rfl rfl hl.1 rfl (lv_room (Nat.le_of_ble_eq_true rfl)) dX2_renew_23 ⟨Nat.zero_le _, Nat.zero_le _⟩) (fun H locs hP hD hS => ?_)
      refine lv_iinc (v := (nI (k12 + 1))) (lv' := [(3, .int (nI (k12 + 1))), (0, .ref h), (1, .int nl), (2, .int nn)]) hx hb dX2_renew_26 hl (k := 3) rfl (nI_1 (k12)) (by decide) rfl (fun ls hl => ?_)
      refine lv_goto (tgt := 12) hx hb dX2_renew_29 (by decide) ?_
      have hR4 : sX2_renew_12  k12 wce_12 = (fX3_write 60 wce_12 (nI k12) 0) := rfl
      exact ih12 (k12 + 1) hlt12 (by omega) _ (lp_next hacc12 hR4)  _ _ hP hD hS ls (lv_sub hl [1, 2, 3, 0] rfl)
  exact loop12 (Nn + 1) 0 (Nat.zero_le _) (by omega) _ rfl  _ _ hP hD hS ls (lv_sub hl [1, 2, 3, 0] rfl)

def fX2_clear  : Int32 × Int32 := ((-1), 0)
theorem q_X2_clear : yX2_clear.cls = RX2 ∧ yX2_clear.cls ≠ "java/lang/invoke/MethodHandle" ∧ yX2_clear.cls ≠ "java/lang/invoke/VarHandle" ∧ (parseMethodDescriptor yX2_clear.desc).map (fun d => d.parameters.length) = some 0 := by decide +kernel
set_option maxHeartbeats 4000000 in
set_option maxRecDepth 100000 in
theorem c_X2_clear (l : Launch) (D : va_G) (cI cS : ClassId) (h ac : Nat) (la le : Int32) (ce : Nat → Int32)  : MMv l yX2_clear wsX2_clear { frames := 0, cells := 0, slots := 0, locals := 0 } D cI cS (wSh cI h ac la le ce) [.ref h] (wSh cI h ac fX2_clear.1 fX2_clear.2 ce) := by
  refine kEnterM (cc := cX2_clear) (maxL := 1) (ret := none) (by decide) rfl (Nat.le_of_ble_eq_true rfl) ?_
  intro p e s m below meth c ls Qf hQ hx hb hml hr hlocks hown hts hK hP hD hS hl
  have hown : s.vm.findClass RX2 = some m.cls := hown
  have hl : lv_has ls 1 [(0, .ref h)] := hl
  generalize kA (wSh cI h ac la le ce) = A at hQ hD hS
  refine lv_aload_n hx hb dX2_clear_0 rfl (lv_at hl 0 rfl) ?_
  refine lv_iconst (v := (-1)) hx hb dX2_clear_1 (by decide) ?_
  refine va_put (D := D) (ci := 2) (v := .int (-1)) (ty := tyX2 1) (C := RX2) (T := TX2) (N := 3) hx hb hts (fun _ h => List.mem_cons_of_mem _ (List.mem_append_right _ h)) tyX2 tyX2_ok nmX2 hown hK.1 hP hD hS 0 rfl rfl 1 (by decide) (hts (.fieldLink RX2 15 "LieNights$Sheet" "lane" "I") (List.mem_of_getElem? (i := 1) rfl)) (fun _ h9 => h9) rfl (tyX2_ok 1 (by decide)) rfl rfl (Nat.le_of_ble_eq_true rfl) dX2_clear_2 (fun H locs hP hD hS => ?_)
  have hP : va_P D vwCl (wSh cI h ac (-1) le ce) H := hP
  have hD : va_D A (wSh cI h ac (-1) le ce) := hD
  refine lv_aload_n hx hb dX2_clear_5 rfl (lv_at hl 0 rfl) ?_
  refine lv_iconst (v := 0) hx hb dX2_clear_6 (by decide) ?_
  refine va_put (D := D) (ci := 2) (v := .int 0) (ty := tyX2 2) (C := RX2) (T := TX2) (N := 3) hx hb hts (fun _ h => List.mem_cons_of_mem _ (List.mem_append_right _ h)) tyX2 tyX2_ok nmX2 hown hK.1 hP hD hS 0 rfl rfl 2 (by decide) (hts (.fieldLink RX2 23 "LieNights$Sheet" "length" "I") (List.mem_of_getElem? (i := 2) rfl)) (fun _ h9 => h9) rfl (tyX2_ok 2 (by decide)) rfl rfl (Nat.le_of_ble_eq_true rfl) dX2_clear_7 (fun H locs hP hD hS => ?_)
  have hP : va_P D vwCl (wSh cI h ac (-1) 0 ce) H := hP
  have hD : va_D A (wSh cI h ac (-1) 0 ce) := hD
  have hR1 : (fX2_clear ) = ((-1), 0) := rfl
  rw [hQ]
  exact W.vret hx hb hr (fun t ht hW => ⟨⟨(), rfl, trivial, (by show va_P D vwCl _ t.heap; rw [hR1, ht]; exact hP)⟩, hS.F ht⟩) hS.2.2 dX2_clear_10

def fX2_get (ce : Nat → Int32) (i : Int32) : Int32 := (fX3_at 60 ce i)
theorem q_X2_get : yX2_get.cls = RX2 ∧ yX2_get.cls ≠ "java/lang/invoke/MethodHandle" ∧ yX2_get.cls ≠ "java/lang/invoke/VarHandle" ∧ (parseMethodDescriptor yX2_get.desc).map (fun d => d.parameters.length) = some 1 := by decide +kernel
set_option maxHeartbeats 4000000 in
set_option maxRecDepth 100000 in
theorem c_X2_get (l : Launch) (D : va_G) (cI cS : ClassId) (h ac : Nat) (la le : Int32) (ce : Nat → Int32) (i : Int32)  : PMi l yX2_get wsX2_get { frames := 1, cells := 0, slots := 0, locals := 21 } D cI cS (wSh cI h ac la le ce) [.ref h, .int i] (fX2_get ce i) := by
  refine kEnter (cc := cX2_get) (maxL := 2) (ret := (some .int)) (by decide) rfl (Nat.le_of_ble_eq_true rfl) ?_
  intro p e s m below meth c ls Qf hQ hx hb hml hr hlocks hown hts hK hP hl
  have hown : s.vm.findClass RX2 = some m.cls := hown
  have hl : lv_has ls 2 [(0, .ref h), (1, .int i)] := hl
  refine lv_aload_n hx hb dX2_get_0 rfl (lv_at hl 0 rfl) ?_
  refine va_get (D := D) (ci := 2) (v := .ref ac) (C := RX2) (T := TX2) (N := 3) hx hb hts (fun _ h => List.mem_cons_of_mem _ (List.mem_append_right _ h)) hown hK.1 hP 0 rfl rfl 0 (by decide) (hts (.fieldLink RX2 9 "LieNights$Sheet" "cells" "[I") (List.mem_of_getElem? (i := 1) rfl)) (fun _ h9 => h9) rfl dX2_get_1 ?_
  refine lv_iload_n hx hb dX2_get_4 rfl (lv_at hl 1 rfl) ?_
  refine kPi (va_runSN (As := [.ref ac, .int i]) (rest := []) ⟨hx, hb, hml, hown, hts⟩ (c_X3_at l D cI cS ac 60 ce i (by decide)) ⟨va_cnB 2 hts gX2_get_X3_at_n34 rfl rfl rfl (hK.2.at 4 (q := (RX2, 34, yX3_at, "LieNights")) rfl) (hts _ (List.mem_of_getElem? (i := 3) rfl)) q_X3_at.2 ⟨Nat.le_of_ble_eq_true rfl, Nat.le_of_ble_eq_true rfl⟩, hts _ (List.mem_of_getElem? (i := 2) rfl), trivial⟩ (kPS hK hP [1] rfl [.ref ac, .int i]) rfl rfl hl.1 rfl (lv_room (Nat.le_of_ble_eq_true rfl)) dX2_get_5 ⟨Nat.zero_le _, Nat.zero_le _⟩) ?_
  have hR1 : (fX2_get ce i) = (fX3_at 60 ce i) := rfl
  rw [hQ]
  exact W.iret (v := (fX3_at 60 ce i)) hx hb hr (fun t ht hW => ⟨_, rfl, hR1.symm, ht⟩) (fun q h => by cases h) dX2_get_8

def fX2_cut (la v : Int32) : Int32 := (if la = 0 then (v.toInt8.toInt32) else (if la = 1 then (v.toInt16.toInt32) else v))
theorem q_X2_cut : yX2_cut.cls = RX2 ∧ yX2_cut.cls ≠ "java/lang/invoke/MethodHandle" ∧ yX2_cut.cls ≠ "java/lang/invoke/VarHandle" ∧ (parseMethodDescriptor yX2_cut.desc).map (fun d => d.parameters.length) = some 1 := by decide +kernel
set_option maxHeartbeats 4000000 in
set_option maxRecDepth 100000 in
theorem c_X2_cut (l : Launch) (D : va_G) (cI cS : ClassId) (h ac : Nat) (la le : Int32) (ce : Nat → Int32) (v : Int32)  : PMi l yX2_cut wsX2_cut { frames := 0, cells := 0, slots := 0, locals := 0 } D cI cS (wSh cI h ac la le ce) [.ref h, .int v] (fX2_cut la v) := by
  refine kEnter (cc := cX2_cut) (maxL := 2) (ret := (some .int)) (by decide) rfl (Nat.le_of_ble_eq_true rfl) ?_
  intro p e s m below meth c ls Qf hQ hx hb hml hr hlocks hown hts hK hP hl
  have hown : s.vm.findClass RX2 = some m.cls := hown
  have hl : lv_has ls 2 [(0, .ref h), (1, .int v)] := hl
  refine lv_aload_n hx hb dX2_cut_0 rfl (lv_at hl 0 rfl) ?_
  refine va_get (D := D) (ci := 2) (v := .int la) (C := RX2) (T := TX2) (N := 3) hx hb hts (fun _ h => List.mem_cons_of_mem _ (List.mem_append_right _ h)) hown hK.1 hP 0 rfl rfl 1 (by decide) (hts (.fieldLink RX2 15 "LieNights$Sheet" "lane" "I") (List.mem_of_getElem? (i := 1) rfl)) (fun _ h9 => h9) rfl dX2_cut_1 ?_
  refine lv_if_ne (tgt := 10) hx hb dX2_cut_4 (by decide) (fun c4 => ?_) (fun c4 => ?_)
  · skip
    refine lv_aload_n hx hb dX2_cut_10 rfl (lv_at hl 0 rfl) ?_
    refine va_get (D := D) (ci := 2) (v := .int la) (C := RX2) (T := TX2) (N := 3) hx hb hts (fun _ h => List.mem_cons_of_mem _ (List.mem_append_right _ h)) hown hK.1 hP 0 rfl rfl 1 (by decide) (hts (.fieldLink RX2 15 "LieNights$Sheet" "lane" "I") (List.mem_of_getElem? (i := 1) rfl)) (fun _ h9 => h9) rfl dX2_cut_11 ?_
    refine lv_iconst (v := 1) hx hb dX2_cut_14 (by decide) ?_
    refine lv_icmp_ne (tgt := 23) hx hb dX2_cut_15 (by decide) (fun c15 => ?_) (fun c15 => ?_)
    · skip
      refine lv_iload_n hx hb dX2_cut_23 rfl (lv_at hl 1 rfl) ?_
      have hR1 : (fX2_cut la v) = v := (by unfold fX2_cut; rw [if_neg c4, if_neg c15])
      rw [hQ]
      exact W.iret (v := v) hx hb hr (fun t ht hW => ⟨_, rfl, hR1.symm, ht⟩) (fun q h => by cases h) dX2_cut_24
    refine lv_iload_n hx hb dX2_cut_18 rfl (lv_at hl 1 rfl) ?_
    refine lv_i2s (v := v.toInt16.toInt32) hx hb dX2_cut_19 rfl ?_
    refine lv_goto (tgt := 24) hx hb dX2_cut_20 (by decide) ?_
    have hR2 : (fX2_cut la v) = (v.toInt16.toInt32) := (by unfold fX2_cut; rw [if_neg c4, if_pos c15])
    rw [hQ]
    exact W.iret (v := (v.toInt16.toInt32)) hx hb hr (fun t ht hW => ⟨_, rfl, hR2.symm, ht⟩) (fun q h => by cases h) dX2_cut_24
  refine lv_iload_n hx hb dX2_cut_7 rfl (lv_at hl 1 rfl) ?_
  refine lv_i2b (v := v.toInt8.toInt32) hx hb dX2_cut_8 rfl ?_
  have hR3 : (fX2_cut la v) = (v.toInt8.toInt32) := (by unfold fX2_cut; rw [if_pos c4])
  rw [hQ]
  exact W.iret (v := (v.toInt8.toInt32)) hx hb hr (fun t ht hW => ⟨_, rfl, hR3.symm, ht⟩) (fun q h => by cases h) dX2_cut_9

def fX2_set (la : Int32) (ce : Nat → Int32) (i v : Int32) : (Nat → Int32) := (fX3_write 60 ce i (fX2_cut la v))
theorem q_X2_set : yX2_set.cls = RX2 ∧ yX2_set.cls ≠ "java/lang/invoke/MethodHandle" ∧ yX2_set.cls ≠ "java/lang/invoke/VarHandle" ∧ (parseMethodDescriptor yX2_set.desc).map (fun d => d.parameters.length) = some 2 := by decide +kernel
set_option maxHeartbeats 4000000 in
set_option maxRecDepth 100000 in
theorem c_X2_set (l : Launch) (D : va_G) (cI cS : ClassId) (h ac : Nat) (la le : Int32) (ce : Nat → Int32) (i v : Int32)  : MMv l yX2_set wsX2_set { frames := 1, cells := 0, slots := 0, locals := 22 } D cI cS (wSh cI h ac la le ce) [.ref h, .int i, .int v] (wSh cI h ac la le (fX2_set la ce i v)) := by
  refine kEnterM (cc := cX2_set) (maxL := 3) (ret := none) (by decide) rfl (Nat.le_of_ble_eq_true rfl) ?_
  intro p e s m below meth c ls Qf hQ hx hb hml hr hlocks hown hts hK hP hD hS hl
  have hown : s.vm.findClass RX2 = some m.cls := hown
  have hl : lv_has ls 3 [(0, .ref h), (1, .int i), (2, .int v)] := hl
  generalize kA (wSh cI h ac la le ce) = A at hQ hD hS
  refine lv_aload_n hx hb dX2_set_0 rfl (lv_at hl 0 rfl) ?_
  refine va_get (D := D) (ci := 2) (v := .ref ac) (C := RX2) (T := TX2) (N := 3) hx hb hts (fun _ h => List.mem_cons_of_mem _ (List.mem_append_right _ h)) hown hK.1 hP 0 rfl rfl 0 (by decide) (hts (.fieldLink RX2 9 "LieNights$Sheet" "cells" "[I") (List.mem_of_getElem? (i := 1) rfl)) (fun _ h9 => h9) rfl dX2_set_1 ?_
  refine lv_iload_n hx hb dX2_set_4 rfl (lv_at hl 1 rfl) ?_
  refine lv_aload_n hx hb dX2_set_5 rfl (lv_at hl 0 rfl) ?_
  refine lv_iload_n hx hb dX2_set_6 rfl (lv_at hl 2 rfl) ?_
  refine kPi (va_runV (As := [.int v]) (rest := [.int i, .ref ac]) ⟨hx, hb, hml, hown, hts⟩ (c_X2_cut l D cI cS h ac la le ce v) (cwV 1 hts gX2_set_X2_cut rfl rfl rfl q_X2_cut ⟨Nat.le_of_ble_eq_true rfl, Nat.le_of_ble_eq_true rfl⟩) (kPV hK hP [0, 1] rfl (va_recv hK.1 hP (ci := 2) (q0 := 0) rfl rfl) [.int v]) rfl rfl hl.1 rfl (lv_room (Nat.le_of_ble_eq_true rfl)) dX2_set_7 ⟨Nat.zero_le _, Nat.zero_le _⟩) ?_
  refine kMv (wl' := (wSh cI h ac la le (fX3_write 60 ce i (fX2_cut la v)))) (wc := (wArr cI ac 60 ce)) (w1 := (wArr cI ac 60 (fX3_write 60 ce i (fX2_cut la v)))) hP hD hS [1] rfl rfl rfl (va_runSN (As := [.ref ac, .int i, .int (fX2_cut la v)]) (rest := []) ⟨hx, hb, hml, hown, hts⟩ (c_X3_write l D cI cS ac 60 ce i (fX2_cut la v) (by decide)) ⟨va_cnB 3 hts gX2_set_X3_write_n30 rfl rfl rfl (hK.2.at 5 (q := (RX2, 30, yX3_write, "LieNights")) rfl) (hts _ (List.mem_of_getElem? (i := 9) rfl)) q_X3_write.2 ⟨Nat.le_of_ble_eq_true rfl, Nat.le_of_ble_eq_true rfl⟩, hts _ (List.mem_of_getElem? (i := 8) rfl), trivial⟩ (kMS hK hP hD [1] rfl rfl [.ref ac, .int i, .int (fX2_cut la v)]) rfl rfl hl.1 rfl (lv_room (Nat.le_of_ble_eq_true rfl)) dX2_set_10 ⟨Nat.zero_le _, Nat.zero_le _⟩) (fun H locs hP hD hS => ?_)
  have hR1 : (fX2_set la ce i v) = (fX3_write 60 ce i (fX2_cut la v)) := rfl
  rw [hQ]
  exact W.vret hx hb hr (fun t ht hW => ⟨⟨(), rfl, trivial, (by show va_P D vwCl _ t.heap; rw [hR1, ht]; exact hP)⟩, hS.F ht⟩) hS.2.2 dX2_set_13

def aX2_takeCells_47 (wce_47 : Nat → Int32) : (Nat → Int32) := wce_47
def sX2_takeCells_47 (ce2 : Nat → Int32) (to i : Int32) (k47 : Nat) (wce_47 : Nat → Int32) : ((Nat → Int32)) := (fX3_write 60 wce_47 (to + (nI k47)) (fX2_get ce2 (i + (nI k47))))
def aX2_takeCells_11 (wce_11 : Nat → Int32) : (Nat → Int32) := wce_11
def sX2_takeCells_11 (ce2 : Nat → Int32) (Nn : Nat) (to i : Int32) (k11 : Nat) (wce_11 : Nat → Int32) : ((Nat → Int32)) := (fX3_write 60 wce_11 (to + (nI (Nn - k11) - 1)) (fX2_get ce2 (i + (nI (Nn - k11) - 1))))
def fX2_takeCells (ce ce2 : Nat → Int32) (Nn : Nat) (to i : Int32) : (Nat → Int32) := (if to ≤ i then (aX2_takeCells_47  (lp (fun k a => sX2_takeCells_47 ce2 to i k a) ce Nn)) else (aX2_takeCells_11  (lp (fun k a => sX2_takeCells_11 ce2 Nn to i k a) ce Nn)))
theorem q_X2_takeCells : yX2_takeCells.cls = RX2 ∧ yX2_takeCells.cls ≠ "java/lang/invoke/MethodHandle" ∧ yX2_takeCells.cls ≠ "java/lang/invoke/VarHandle" ∧ (parseMethodDescriptor yX2_takeCells.desc).map (fun d => d.parameters.length) = some 4 := by decide +kernel
set_option maxHeartbeats 4000000 in
set_option maxRecDepth 100000 in
theorem c_X2_takeCells (l : Launch) (D : va_G) (cI cS : ClassId) (h ac : Nat) (la le : Int32) (ce : Nat → Int32) (h2 ac2 : Nat) (la2 le2 : Int32) (ce2 : Nat → Int32) (Nn : Nat) (to i nn : Int32) (hn : nn = nI Nn) (hNn : Nn ≤ 60) : MMv l yX2_takeCells wsX2_takeCells { frames := 2, cells := 0, slots := 0, locals := 42 } D cI cS (wSh2 cI h ac la le ce h2 ac2 la2 le2 ce2) [.ref h, .int to, .ref h2, .int i, .int nn] (wSh2 cI h ac la le (fX2_takeCells ce ce2 Nn to i) h2 ac2 la2 le2 ce2) := by
  refine kEnterM (cc := cX2_takeCells) (maxL := 6) (ret := none) (by decide) rfl (Nat.le_of_ble_eq_true rfl) ?_
  intro p e s m below meth c ls Qf hQ hx hb hml hr hlocks hown hts hK hP hD hS hl
  have hown : s.vm.findClass RX2 = some m.cls := hown
  have hl : lv_has ls 6 [(0, .ref h), (1, .int to), (2, .ref h2), (3, .int i), (4, .int nn)] := hl
  generalize kA (wSh2 cI h ac la le ce h2 ac2 la2 le2 ce2) = A at hQ hD hS
  refine lv_iload_n hx hb dX2_takeCells_0 rfl (lv_at hl 1 rfl) ?_
  refine lv_iload_n hx hb dX2_takeCells_1 rfl (lv_at hl 3 rfl) ?_
  refine lv_icmp_le (tgt := 44) hx hb dX2_takeCells_2 (by decide) (fun c2 => ?_) (fun c2 => ?_)
  · skip
    refine lv_iconst (v := 0) hx hb dX2_takeCells_44 (by decide) ?_
    refine lv_istore (lv' := [(5, .int 0), (0, .ref h), (1, .int to), (2, .ref h2), (3, .int i), (4, .int nn)]) hx hb dX2_takeCells_45 hl (by decide) rfl (fun ls hl => ?_)
    have hR1 : (fX2_takeCells ce ce2 Nn to i) = (aX2_takeCells_47  (lp (fun k a => sX2_takeCells_47 ce2 to i k a) ce Nn)) := (by unfold fX2_takeCells; rw [if_pos c2])
    have loop47 : ∀ (n k47 : Nat), k47 ≤ Nn → Nn + 1 ≤ k47 + n → ∀ (wce_47 : Nat → Int32), lp (fun k a => sX2_takeCells_47 ce2 to i k a) ce k47 = wce_47 →  ∀ (H : Heap) (locs : List Loc), va_P D vwCl (wSh2 cI h ac la le wce_47 h2 ac2 la2 le2 ce2) H → va_D A (wSh2 cI h ac la le wce_47 h2 ac2 la2 le2 ce2) → va_S A s.heap H locs → ∀ (ls : Array Slot), lv_has ls 6 [(0, .ref h), (1, .int to), (2, .ref h2), (3, .int i), (4, .int nn), (5, .int (nI k47))] → W p l e { frames := 2, cells := 0, slots := 0, locals := 42 } s m ([.ref h, .int to, .ref h2, .int i, .int nn] : List Value).toArray below meth c H locs 0 0 Qf (F0 m 47 ls []) := by
      intro n
      induction n with
      | zero => intro k47 h1 h2; exact absurd h2 (by omega)
      | succ n ih =>
        intro k47 hk47 hn47 wce_47 hacc47  H locs hP hD hS ls hl
        have ih47 := ih
        refine lv_iload hx hb dX2_takeCells_47 (lv_at hl 5 rfl) ?_
        refine lv_iload hx hb dX2_takeCells_49 (lv_at hl 4 rfl) ?_
        refine lv_icmp_ge (tgt := 79) hx hb dX2_takeCells_51 (by decide) (fun c51 => ?_) (fun c51 => ?_)
        · skip
          have hkN : k47 = Nn := (kEnd hk47 rfl hn (by omega) c51)
          rw [hkN] at hacc47
          have hR2 : (fX2_takeCells ce ce2 Nn to i) = aX2_takeCells_47  wce_47 := hR1.trans (lp_end (x := wce_47) (g := (fun a => aX2_takeCells_47  a)) hacc47)
          have hR3 : (fX2_takeCells ce ce2 Nn to i) = wce_47 := hR2.trans rfl
          rw [hQ]
          exact W.vret hx hb hr (fun t ht hW => ⟨⟨(), rfl, trivial, (by show va_P D vwCl _ t.heap; rw [hR3, ht]; exact hP)⟩, hS.F ht⟩) hS.2.2 dX2_takeCells_79
        have hlt47 : k47 < Nn := (kLt hk47 rfl hn c51)
        refine lv_aload_n hx hb dX2_takeCells_54 rfl (lv_at hl 0 rfl) ?_
        refine va_get (D := D) (ci := 2) (v := .ref ac) (C := RX2) (T := TX2) (N := 3) hx hb hts (fun _ h => List.mem_cons_of_mem _ (List.mem_append_right _ h)) hown hK.1 hP 0 rfl rfl 0 (by decide) (hts (.fieldLink RX2 9 "LieNights$Sheet" "cells" "[I") (List.mem_of_getElem? (i := 1) rfl)) (fun _ h9 => h9) rfl dX2_takeCells_55 ?_
        refine lv_iload_n hx hb dX2_takeCells_58 rfl (lv_at hl 1 rfl) ?_
        refine lv_iload hx hb dX2_takeCells_59 (lv_at hl 5 rfl) ?_
        refine lv_iadd hx hb dX2_takeCells_61 ?_
        refine lv_aload_n hx hb dX2_takeCells_62 rfl (lv_at hl 2 rfl) ?_
        refine lv_iload_n hx hb dX2_takeCells_63 rfl (lv_at hl 3 rfl) ?_
        refine lv_iload hx hb dX2_takeCells_64 (lv_at hl 5 rfl) ?_
        refine lv_iadd hx hb dX2_takeCells_66 ?_
        refine kPi (va_runV (As := [.int (i + (nI k47))]) (rest := [.int (to + (nI k47)), .ref ac]) ⟨hx, hb, hml, hown, hts⟩ (c_X2_get l D cI cS h2 ac2 la2 le2 ce2 (i + (nI k47))) (cwV 1 hts gX2_takeCells_X2_get rfl rfl rfl q_X2_get ⟨Nat.le_of_ble_eq_true rfl, Nat.le_of_ble_eq_true rfl⟩) (kPV hK hP [2, 3] rfl (va_recv hK.1 hP (ci := 2) (q0 := 2) rfl rfl) [.int (i + (nI k47))]) rfl rfl hl.1 rfl (lv_room (Nat.le_of_ble_eq_true rfl)) dX2_takeCells_67 ⟨Nat.zero_le _, Nat.zero_le _⟩) ?_
        refine kMv (wl' := (wSh2 cI h ac la le (fX3_write 60 wce_47 (to + (nI k47)) (fX2_get ce2 (i + (nI k47)))) h2 ac2 la2 le2 ce2)) (wc := (wArr cI ac 60 wce_47)) (w1 := (wArr cI ac 60 (fX3_write 60 wce_47 (to + (nI k47)) (fX2_get ce2 (i + (nI k47)))))) hP hD hS [1] rfl rfl rfl (va_runSN (As := [.ref ac, .int (to + (nI k47)), .int (fX2_get ce2 (i + (nI k47)))]) (rest := []) ⟨hx, hb, hml, hown, hts⟩ (c_X3_write l D cI cS ac 60 wce_47 (to + (nI k47)) (fX2_get ce2 (i + (nI k47))) (by decide)) ⟨va_cnB 3 hts gX2_takeCells_X3_write_n30 rfl rfl rfl (hK.2.at 5 (q := (RX2, 30, yX3_write, "LieNights")) rfl) (hts _ (List.mem_of_getElem? (i := 8) rfl)) q_X3_write.2 ⟨Nat.le_of_ble_eq_true rfl, Nat.le_of_ble_eq_true rfl⟩, hts _ (List.mem_of_getElem? (i := 10) rfl), trivial⟩ (kMS hK hP hD [1] rfl rfl [.ref ac, .int (to + (nI k47)), .int (fX2_get ce2 (i + (nI k47)))]) rfl rfl hl.1 rfl (lv_room (Nat.le_of_ble_eq_true rfl)) dX2_takeCells_70 ⟨Nat.zero_le _, Nat.zero_le _⟩) (fun H locs hP hD hS => ?_)
        refine lv_iinc (v := (nI (k47 + 1))) (lv' := [(5, .int (nI (k47 + 1))), (0, .ref h), (1, .int to), (2, .ref h2), (3, .int i), (4, .int nn)]) hx hb dX2_takeCells_73 hl (k := 5) rfl (nI_1 (k47)) (by decide) rfl (fun ls hl => ?_)
        refine lv_goto (tgt := 47) hx hb dX2_takeCells_76 (by decide) ?_
        have hR4 : sX2_takeCells_47 ce2 to i k47 wce_47 = (fX3_write 60 wce_47 (to + (nI k47)) (fX2_get ce2 (i + (nI k47)))) := rfl
        exact ih47 (k47 + 1) hlt47 (by omega) _ (lp_next hacc47 hR4)  _ _ hP hD hS ls (lv_sub hl [1, 2, 3, 4, 5, 0] rfl)
    exact loop47 (Nn + 1) 0 (Nat.zero_le _) (by omega) _ rfl  _ _ hP hD hS ls (lv_sub hl [1, 2, 3, 4, 5, 0] rfl)
  refine lv_iload hx hb dX2_takeCells_5 (lv_at hl 4 rfl) ?_
  refine lv_iconst (v := 1) hx hb dX2_takeCells_7 (by decide) ?_
  refine lv_isub hx hb dX2_takeCells_8 ?_
  refine lv_istore (lv' := [(5, .int (nn - 1)), (0, .ref h), (1, .int to), (2, .ref h2), (3, .int i), (4, .int nn)]) hx hb dX2_takeCells_9 hl (by decide) rfl (fun ls hl => ?_)
  have hR5 : (fX2_takeCells ce ce2 Nn to i) = (aX2_takeCells_11  (lp (fun k a => sX2_takeCells_11 ce2 Nn to i k a) ce Nn)) := (by unfold fX2_takeCells; rw [if_neg c2])
  have loop11 : ∀ (n k11 : Nat), k11 ≤ Nn → Nn + 1 ≤ k11 + n → ∀ (wce_11 : Nat → Int32), lp (fun k a => sX2_takeCells_11 ce2 Nn to i k a) ce k11 = wce_11 →  ∀ (H : Heap) (locs : List Loc), va_P D vwCl (wSh2 cI h ac la le wce_11 h2 ac2 la2 le2 ce2) H → va_D A (wSh2 cI h ac la le wce_11 h2 ac2 la2 le2 ce2) → va_S A s.heap H locs → ∀ (ls : Array Slot), lv_has ls 6 [(0, .ref h), (1, .int to), (2, .ref h2), (3, .int i), (4, .int nn), (5, .int (nI (Nn - k11) - 1))] → W p l e { frames := 2, cells := 0, slots := 0, locals := 42 } s m ([.ref h, .int to, .ref h2, .int i, .int nn] : List Value).toArray below meth c H locs 0 0 Qf (F0 m 11 ls []) := by
    intro n
    induction n with
    | zero => intro k11 h1 h2; exact absurd h2 (by omega)
    | succ n ih =>
      intro k11 hk11 hn11 wce_11 hacc11  H locs hP hD hS ls hl
      have ih11 := ih
      refine lv_iload hx hb dX2_takeCells_11 (lv_at hl 5 rfl) ?_
      refine lv_if_lt (tgt := 41) hx hb dX2_takeCells_13 (by decide) (fun c13 => ?_) (fun c13 => ?_)
      · skip
        have hkN : k11 = Nn := (kDnE hk11 (by omega) c13)
        rw [hkN] at hacc11
        have hR6 : (fX2_takeCells ce ce2 Nn to i) = aX2_takeCells_11  wce_11 := hR5.trans (lp_end (x := wce_11) (g := (fun a => aX2_takeCells_11  a)) hacc11)
        refine lv_goto (tgt := 79) hx hb dX2_takeCells_41 (by decide) ?_
        have hR7 : (fX2_takeCells ce ce2 Nn to i) = wce_11 := hR6.trans rfl
        rw [hQ]
        exact W.vret hx hb hr (fun t ht hW => ⟨⟨(), rfl, trivial, (by show va_P D vwCl _ t.heap; rw [hR7, ht]; exact hP)⟩, hS.F ht⟩) hS.2.2 dX2_takeCells_79
      have hlt11 : k11 < Nn := (kDnL hk11 c13)
      refine lv_aload_n hx hb dX2_takeCells_16 rfl (lv_at hl 0 rfl) ?_
      refine va_get (D := D) (ci := 2) (v := .ref ac) (C := RX2) (T := TX2) (N := 3) hx hb hts (fun _ h => List.mem_cons_of_mem _ (List.mem_append_right _ h)) hown hK.1 hP 0 rfl rfl 0 (by decide) (hts (.fieldLink RX2 9 "LieNights$Sheet" "cells" "[I") (List.mem_of_getElem? (i := 1) rfl)) (fun _ h9 => h9) rfl dX2_takeCells_17 ?_
      refine lv_iload_n hx hb dX2_takeCells_20 rfl (lv_at hl 1 rfl) ?_
      refine lv_iload hx hb dX2_takeCells_21 (lv_at hl 5 rfl) ?_
      refine lv_iadd hx hb dX2_takeCells_23 ?_
      refine lv_aload_n hx hb dX2_takeCells_24 rfl (lv_at hl 2 rfl) ?_
      refine lv_iload_n hx hb dX2_takeCells_25 rfl (lv_at hl 3 rfl) ?_
      refine lv_iload hx hb dX2_takeCells_26 (lv_at hl 5 rfl) ?_
      refine lv_iadd hx hb dX2_takeCells_28 ?_
      refine kPi (va_runV (As := [.int (i + (nI (Nn - k11) - 1))]) (rest := [.int (to + (nI (Nn - k11) - 1)), .ref ac]) ⟨hx, hb, hml, hown, hts⟩ (c_X2_get l D cI cS h2 ac2 la2 le2 ce2 (i + (nI (Nn - k11) - 1))) (cwV 1 hts gX2_takeCells_X2_get rfl rfl rfl q_X2_get ⟨Nat.le_of_ble_eq_true rfl, Nat.le_of_ble_eq_true rfl⟩) (kPV hK hP [2, 3] rfl (va_recv hK.1 hP (ci := 2) (q0 := 2) rfl rfl) [.int (i + (nI (Nn - k11) - 1))]) rfl rfl hl.1 rfl (lv_room (Nat.le_of_ble_eq_true rfl)) dX2_takeCells_29 ⟨Nat.zero_le _, Nat.zero_le _⟩) ?_
      refine kMv (wl' := (wSh2 cI h ac la le (fX3_write 60 wce_11 (to + (nI (Nn - k11) - 1)) (fX2_get ce2 (i + (nI (Nn - k11) - 1)))) h2 ac2 la2 le2 ce2)) (wc := (wArr cI ac 60 wce_11)) (w1 := (wArr cI ac 60 (fX3_write 60 wce_11 (to + (nI (Nn - k11) - 1)) (fX2_get ce2 (i + (nI (Nn - k11) - 1)))))) hP hD hS [1] rfl rfl rfl (va_runSN (As := [.ref ac, .int (to + (nI (Nn - k11) - 1)), .int (fX2_get ce2 (i + (nI (Nn - k11) - 1)))]) (rest := []) ⟨hx, hb, hml, hown, hts⟩ (c_X3_write l D cI cS ac 60 wce_11 (to + (nI (Nn - k11) - 1)) (fX2_get ce2 (i + (nI (Nn - k11) - 1))) (by decide)) ⟨va_cnB 3 hts gX2_takeCells_X3_write_n30 rfl rfl rfl (hK.2.at 5 (q := (RX2, 30, yX3_write, "LieNights")) rfl) (hts _ (List.mem_of_getElem? (i := 8) rfl)) q_X3_write.2 ⟨Nat.le_of_ble_eq_true rfl, Nat.le_of_ble_eq_true rfl⟩, hts _ (List.mem_of_getElem? (i := 10) rfl), trivial⟩ (kMS hK hP hD [1] rfl rfl [.ref ac, .int (to + (nI (Nn - k11) - 1)), .int (fX2_get ce2 (i + (nI (Nn - k11) - 1)))]) rfl rfl hl.1 rfl (lv_room (Nat.le_of_ble_eq_true rfl)) dX2_takeCells_32 ⟨Nat.zero_le _, Nat.zero_le _⟩) (fun H locs hP hD hS => ?_)
      refine lv_iinc (v := (nI (Nn - (k11 + 1)) - 1)) (lv' := [(5, .int (nI (Nn - (k11 + 1)) - 1)), (0, .ref h), (1, .int to), (2, .ref h2), (3, .int i), (4, .int nn)]) hx hb dX2_takeCells_35 hl (k := 5) rfl (kDnI hlt11) (by decide) rfl (fun ls hl => ?_)
      refine lv_goto (tgt := 11) hx hb dX2_takeCells_38 (by decide) ?_
      have hR8 : sX2_takeCells_11 ce2 Nn to i k11 wce_11 = (fX3_write 60 wce_11 (to + (nI (Nn - k11) - 1)) (fX2_get ce2 (i + (nI (Nn - k11) - 1)))) := rfl
      exact ih11 (k11 + 1) hlt11 (by omega) _ (lp_next hacc11 hR8)  _ _ hP hD hS ls (lv_sub hl [1, 2, 3, 4, 5, 0] rfl)
  exact loop11 (Nn + 1) 0 (Nat.zero_le _) (by omega) _ rfl  _ _ hP hD hS ls (lv_sub hl [1, 2, 3, 4, 5, 0] (by rw [hn]; rfl))

def aX2_takeCells_a_47 (wce_47 : Nat → Int32) : (Nat → Int32) := wce_47
def sX2_takeCells_a_47 (to i : Int32) (k47 : Nat) (wce_47 : Nat → Int32) : ((Nat → Int32)) := (fX3_write 60 wce_47 (to + (nI k47)) (fX2_get wce_47 (i + (nI k47))))
def aX2_takeCells_a_11 (wce_11 : Nat → Int32) : (Nat → Int32) := wce_11
def sX2_takeCells_a_11 (Nn : Nat) (to i : Int32) (k11 : Nat) (wce_11 : Nat → Int32) : ((Nat → Int32)) := (fX3_write 60 wce_11 (to + (nI (Nn - k11) - 1)) (fX2_get wce_11 (i + (nI (Nn - k11) - 1))))
def fX2_takeCells_a (ce : Nat → Int32) (Nn : Nat) (to i : Int32) : (Nat → Int32) := (if to ≤ i then (aX2_takeCells_a_47  (lp (fun k a => sX2_takeCells_a_47 to i k a) ce Nn)) else (aX2_takeCells_a_11  (lp (fun k a => sX2_takeCells_a_11 Nn to i k a) ce Nn)))
set_option maxHeartbeats 4000000 in
set_option maxRecDepth 100000 in
theorem c_X2_takeCells_a (l : Launch) (D : va_G) (cI cS : ClassId) (h ac : Nat) (la le : Int32) (ce : Nat → Int32) (Nn : Nat) (to i nn : Int32) (hn : nn = nI Nn) (hNn : Nn ≤ 60) : MMv l yX2_takeCells wsX2_takeCells { frames := 2, cells := 0, slots := 0, locals := 42 } D cI cS (wSh cI h ac la le ce) [.ref h, .int to, .ref h, .int i, .int nn] (wSh cI h ac la le (fX2_takeCells_a ce Nn to i)) := by
  refine kEnterM (cc := cX2_takeCells) (maxL := 6) (ret := none) (by decide) rfl (Nat.le_of_ble_eq_true rfl) ?_
  intro p e s m below meth c ls Qf hQ hx hb hml hr hlocks hown hts hK hP hD hS hl
  have hown : s.vm.findClass RX2 = some m.cls := hown
  have hl : lv_has ls 6 [(0, .ref h), (1, .int to), (2, .ref h), (3, .int i), (4, .int nn)] := hl
  generalize kA (wSh cI h ac la le ce) = A at hQ hD hS
  refine lv_iload_n hx hb dX2_takeCells_0 rfl (lv_at hl 1 rfl) ?_
  refine lv_iload_n hx hb dX2_takeCells_1 rfl (lv_at hl 3 rfl) ?_
  refine lv_icmp_le (tgt := 44) hx hb dX2_takeCells_2 (by decide) (fun c2 => ?_) (fun c2 => ?_)
  · skip
    refine lv_iconst (v := 0) hx hb dX2_takeCells_44 (by decide) ?_
    refine lv_istore (lv' := [(5, .int 0), (0, .ref h), (1, .int to), (2, .ref h), (3, .int i), (4, .int nn)]) hx hb dX2_takeCells_45 hl (by decide) rfl (fun ls hl => ?_)
    have hR1 : (fX2_takeCells_a ce Nn to i) = (aX2_takeCells_a_47  (lp (fun k a => sX2_takeCells_a_47 to i k a) ce Nn)) := (by unfold fX2_takeCells_a; rw [if_pos c2])
    have loop47 : ∀ (n k47 : Nat), k47 ≤ Nn → Nn + 1 ≤ k47 + n → ∀ (wce_47 : Nat → Int32), lp (fun k a => sX2_takeCells_a_47 to i k a) ce k47 = wce_47 →  ∀ (H : Heap) (locs : List Loc), va_P D vwCl (wSh cI h ac la le wce_47) H → va_D A (wSh cI h ac la le wce_47) → va_S A s.heap H locs → ∀ (ls : Array Slot), lv_has ls 6 [(0, .ref h), (1, .int to), (2, .ref h), (3, .int i), (4, .int nn), (5, .int (nI k47))] → W p l e { frames := 2, cells := 0, slots := 0, locals := 42 } s m ([.ref h, .int to, .ref h, .int i, .int nn] : List Value).toArray below meth c H locs 0 0 Qf (F0 m 47 ls []) := by
      intro n
      induction n with
      | zero => intro k47 h1 h2; exact absurd h2 (by omega)
      | succ n ih =>
        intro k47 hk47 hn47 wce_47 hacc47  H locs hP hD hS ls hl
        have ih47 := ih
        refine lv_iload hx hb dX2_takeCells_47 (lv_at hl 5 rfl) ?_
        refine lv_iload hx hb dX2_takeCells_49 (lv_at hl 4 rfl) ?_
        refine lv_icmp_ge (tgt := 79) hx hb dX2_takeCells_51 (by decide) (fun c51 => ?_) (fun c51 => ?_)
        · skip
          have hkN : k47 = Nn := (kEnd hk47 rfl hn (by omega) c51)
          rw [hkN] at hacc47
          have hR2 : (fX2_takeCells_a ce Nn to i) = aX2_takeCells_a_47  wce_47 := hR1.trans (lp_end (x := wce_47) (g := (fun a => aX2_takeCells_a_47  a)) hacc47)
          have hR3 : (fX2_takeCells_a ce Nn to i) = wce_47 := hR2.trans rfl
          rw [hQ]
          exact W.vret hx hb hr (fun t ht hW => ⟨⟨(), rfl, trivial, (by show va_P D vwCl _ t.heap; rw [hR3, ht]; exact hP)⟩, hS.F ht⟩) hS.2.2 dX2_takeCells_79
        have hlt47 : k47 < Nn := (kLt hk47 rfl hn c51)
        refine lv_aload_n hx hb dX2_takeCells_54 rfl (lv_at hl 0 rfl) ?_
        refine va_get (D := D) (ci := 2) (v := .ref ac) (C := RX2) (T := TX2) (N := 3) hx hb hts (fun _ h => List.mem_cons_of_mem _ (List.mem_append_right _ h)) hown hK.1 hP 0 rfl rfl 0 (by decide) (hts (.fieldLink RX2 9 "LieNights$Sheet" "cells" "[I") (List.mem_of_getElem? (i := 1) rfl)) (fun _ h9 => h9) rfl dX2_takeCells_55 ?_
        refine lv_iload_n hx hb dX2_takeCells_58 rfl (lv_at hl 1 rfl) ?_
        refine lv_iload hx hb dX2_takeCells_59 (lv_at hl 5 rfl) ?_
        refine lv_iadd hx hb dX2_takeCells_61 ?_
        refine lv_aload_n hx hb dX2_takeCells_62 rfl (lv_at hl 2 rfl) ?_
        refine lv_iload_n hx hb dX2_takeCells_63 rfl (lv_at hl 3 rfl) ?_
        refine lv_iload hx hb dX2_takeCells_64 (lv_at hl 5 rfl) ?_
        refine lv_iadd hx hb dX2_takeCells_66 ?_
        refine kPi (va_runV (As := [.int (i + (nI k47))]) (rest := [.int (to + (nI k47)), .ref ac]) ⟨hx, hb, hml, hown, hts⟩ (c_X2_get l D cI cS h ac la le wce_47 (i + (nI k47))) (cwV 1 hts gX2_takeCells_X2_get rfl rfl rfl q_X2_get ⟨Nat.le_of_ble_eq_true rfl, Nat.le_of_ble_eq_true rfl⟩) (kPV hK hP [0, 1] rfl (va_recv hK.1 hP (ci := 2) (q0 := 0) rfl rfl) [.int (i + (nI k47))]) rfl rfl hl.1 rfl (lv_room (Nat.le_of_ble_eq_true rfl)) dX2_takeCells_67 ⟨Nat.zero_le _, Nat.zero_le _⟩) ?_
        refine kMv (wl' := (wSh cI h ac la le (fX3_write 60 wce_47 (to + (nI k47)) (fX2_get wce_47 (i + (nI k47)))))) (wc := (wArr cI ac 60 wce_47)) (w1 := (wArr cI ac 60 (fX3_write 60 wce_47 (to + (nI k47)) (fX2_get wce_47 (i + (nI k47)))))) hP hD hS [1] rfl rfl rfl (va_runSN (As := [.ref ac, .int (to + (nI k47)), .int (fX2_get wce_47 (i + (nI k47)))]) (rest := []) ⟨hx, hb, hml, hown, hts⟩ (c_X3_write l D cI cS ac 60 wce_47 (to + (nI k47)) (fX2_get wce_47 (i + (nI k47))) (by decide)) ⟨va_cnB 3 hts gX2_takeCells_X3_write_n30 rfl rfl rfl (hK.2.at 5 (q := (RX2, 30, yX3_write, "LieNights")) rfl) (hts _ (List.mem_of_getElem? (i := 8) rfl)) q_X3_write.2 ⟨Nat.le_of_ble_eq_true rfl, Nat.le_of_ble_eq_true rfl⟩, hts _ (List.mem_of_getElem? (i := 10) rfl), trivial⟩ (kMS hK hP hD [1] rfl rfl [.ref ac, .int (to + (nI k47)), .int (fX2_get wce_47 (i + (nI k47)))]) rfl rfl hl.1 rfl (lv_room (Nat.le_of_ble_eq_true rfl)) dX2_takeCells_70 ⟨Nat.zero_le _, Nat.zero_le _⟩) (fun H locs hP hD hS => ?_)
        refine lv_iinc (v := (nI (k47 + 1))) (lv' := [(5, .int (nI (k47 + 1))), (0, .ref h), (1, .int to), (2, .ref h), (3, .int i), (4, .int nn)]) hx hb dX2_takeCells_73 hl (k := 5) rfl (nI_1 (k47)) (by decide) rfl (fun ls hl => ?_)
        refine lv_goto (tgt := 47) hx hb dX2_takeCells_76 (by decide) ?_
        have hR4 : sX2_takeCells_a_47 to i k47 wce_47 = (fX3_write 60 wce_47 (to + (nI k47)) (fX2_get wce_47 (i + (nI k47)))) := rfl
        exact ih47 (k47 + 1) hlt47 (by omega) _ (lp_next hacc47 hR4)  _ _ hP hD hS ls (lv_sub hl [1, 2, 3, 4, 5, 0] rfl)
    exact loop47 (Nn + 1) 0 (Nat.zero_le _) (by omega) _ rfl  _ _ hP hD hS ls (lv_sub hl [1, 2, 3, 4, 5, 0] rfl)
  refine lv_iload hx hb dX2_takeCells_5 (lv_at hl 4 rfl) ?_
  refine lv_iconst (v := 1) hx hb dX2_takeCells_7 (by decide) ?_
  refine lv_isub hx hb dX2_takeCells_8 ?_
  refine lv_istore (lv' := [(5, .int (nn - 1)), (0, .ref h), (1, .int to), (2, .ref h), (3, .int i), (4, .int nn)]) hx hb dX2_takeCells_9 hl (by decide) rfl (fun ls hl => ?_)
  have hR5 : (fX2_takeCells_a ce Nn to i) = (aX2_takeCells_a_11  (lp (fun k a => sX2_takeCells_a_11 Nn to i k a) ce Nn)) := (by unfold fX2_takeCells_a; rw [if_neg c2])
  have loop11 : ∀ (n k11 : Nat), k11 ≤ Nn → Nn + 1 ≤ k11 + n → ∀ (wce_11 : Nat → Int32), lp (fun k a => sX2_takeCells_a_11 Nn to i k a) ce k11 = wce_11 →  ∀ (H : Heap) (locs : List Loc), va_P D vwCl (wSh cI h ac la le wce_11) H → va_D A (wSh cI h ac la le wce_11) → va_S A s.heap H locs → ∀ (ls : Array Slot), lv_has ls 6 [(0, .ref h), (1, .int to), (2, .ref h), (3, .int i), (4, .int nn), (5, .int (nI (Nn - k11) - 1))] → W p l e { frames := 2, cells := 0, slots := 0, locals := 42 } s m ([.ref h, .int to, .ref h, .int i, .int nn] : List Value).toArray below meth c H locs 0 0 Qf (F0 m 11 ls []) := by
    intro n
    induction n with
    | zero => intro k11 h1 h2; exact absurd h2 (by omega)
    | succ n ih =>
      intro k11 hk11 hn11 wce_11 hacc11  H locs hP hD hS ls hl
      have ih11 := ih
      refine lv_iload hx hb dX2_takeCells_11 (lv_at hl 5 rfl) ?_
      refine lv_if_lt (tgt := 41) hx hb dX2_takeCells_13 (by decide) (fun c13 => ?_) (fun c13 => ?_)
      · skip
        have hkN : k11 = Nn := (kDnE hk11 (by omega) c13)
        rw [hkN] at hacc11
        have hR6 : (fX2_takeCells_a ce Nn to i) = aX2_takeCells_a_11  wce_11 := hR5.trans (lp_end (x := wce_11) (g := (fun a => aX2_takeCells_a_11  a)) hacc11)
        refine lv_goto (tgt := 79) hx hb dX2_takeCells_41 (by decide) ?_
        have hR7 : (fX2_takeCells_a ce Nn to i) = wce_11 := hR6.trans rfl
        rw [hQ]
        exact W.vret hx hb hr (fun t ht hW => ⟨⟨(), rfl, trivial, (by show va_P D vwCl _ t.heap; rw [hR7, ht]; exact hP)⟩, hS.F ht⟩) hS.2.2 dX2_takeCells_79
      have hlt11 : k11 < Nn := (kDnL hk11 c13)
      refine lv_aload_n hx hb dX2_takeCells_16 rfl (lv_at hl 0 rfl) ?_
      refine va_get (D := D) (ci := 2) (v := .ref ac) (C := RX2) (T := TX2) (N := 3) hx hb hts (fun _ h => List.mem_cons_of_mem _ (List.mem_append_right _ h)) hown hK.1 hP 0 rfl rfl 0 (by decide) (hts (.fieldLink RX2 9 "LieNights$Sheet" "cells" "[I") (List.mem_of_getElem? (i := 1) rfl)) (fun _ h9 => h9) rfl dX2_takeCells_17 ?_
      refine lv_iload_n hx hb dX2_takeCells_20 rfl (lv_at hl 1 rfl) ?_
      refine lv_iload hx hb dX2_takeCells_21 (lv_at hl 5 rfl) ?_
      refine lv_iadd hx hb dX2_takeCells_23 ?_
      refine lv_aload_n hx hb dX2_takeCells_24 rfl (lv_at hl 2 rfl) ?_
      refine lv_iload_n hx hb dX2_takeCells_25 rfl (lv_at hl 3 rfl) ?_
      refine lv_iload hx hb dX2_takeCells_26 (lv_at hl 5 rfl) ?_
      refine lv_iadd hx hb dX2_takeCells_28 ?_
      refine kPi (va_runV (As := [.int (i + (nI (Nn - k11) - 1))]) (rest := [.int (to + (nI (Nn - k11) - 1)), .ref ac]) ⟨hx, hb, hml, hown, hts⟩ (c_X2_get l D cI cS h ac la le wce_11 (i + (nI (Nn - k11) - 1))) (cwV 1 hts gX2_takeCells_X2_get rfl rfl rfl q_X2_get ⟨Nat.le_of_ble_eq_true rfl, Nat.le_of_ble_eq_true rfl⟩) (kPV hK hP [0, 1] rfl (va_recv hK.1 hP (ci := 2) (q0 := 0) rfl rfl) [.int (i + (nI (Nn - k11) - 1))]) rfl rfl hl.1 rfl (lv_room (Nat.le_of_ble_eq_true rfl)) dX2_takeCells_29 ⟨Nat.zero_le _, Nat.zero_le _⟩) ?_
      refine kMv (wl' := (wSh cI h ac la le (fX3_write 60 wce_11 (to + (nI (Nn - k11) - 1)) (fX2_get wce_11 (i + (nI (Nn - k11) - 1)))))) (wc := (wArr cI ac 60 wce_11)) (w1 := (wArr cI ac 60 (fX3_write 60 wce_11 (to + (nI (Nn - k11) - 1)) (fX2_get wce_11 (i + (nI (Nn - k11) - 1)))))) hP hD hS [1] rfl rfl rfl (va_runSN (As := [.ref ac, .int (to + (nI (Nn - k11) - 1)), .int (fX2_get wce_11 (i + (nI (Nn - k11) - 1)))]) (rest := []) ⟨hx, hb, hml, hown, hts⟩ (c_X3_write l D cI cS ac 60 wce_11 (to + (nI (Nn - k11) - 1)) (fX2_get wce_11 (i + (nI (Nn - k11) - 1))) (by decide)) ⟨va_cnB 3 hts gX2_takeCells_X3_write_n30 rfl rfl rfl (hK.2.at 5 (q := (RX2, 30, yX3_write, "LieNights")) rfl) (hts _ (List.mem_of_getElem? (i := 8) rfl)) q_X3_write.2 ⟨Nat.le_of_ble_eq_true rfl, Nat.le_of_ble_eq_true rfl⟩, hts _ (List.mem_of_getElem? (i := 10) rfl), trivial⟩ (kMS hK hP hD [1] rfl rfl [.ref ac, .int (to + (nI (Nn - k11) - 1)), .int (fX2_get wce_11 (i + (nI (Nn - k11) - 1)))]) rfl rfl hl.1 rfl (lv_room (Nat.le_of_ble_eq_true rfl)) dX2_takeCells_32 ⟨Nat.zero_le _, Nat.zero_le _⟩) (fun H locs hP hD hS => ?_)
      refine lv_iinc (v := (nI (Nn - (k11 + 1)) - 1)) (lv' := [(5, .int (nI (Nn - (k11 + 1)) - 1)), (0, .ref h), (1, .int to), (2, .ref h), (3, .int i), (4, .int nn)]) hx hb dX2_takeCells_35 hl (k := 5) rfl (kDnI hlt11) (by decide) rfl (fun ls hl => ?_)
      refine lv_goto (tgt := 11) hx hb dX2_takeCells_38 (by decide) ?_
      have hR8 : sX2_takeCells_a_11 Nn to i k11 wce_11 = (fX3_write 60 wce_11 (to + (nI (Nn - k11) - 1)) (fX2_get wce_11 (i + (nI (Nn - k11) - 1)))) := rfl
      exact ih11 (k11 + 1) hlt11 (by omega) _ (lp_next hacc11 hR8)  _ _ hP hD hS ls (lv_sub hl [1, 2, 3, 4, 5, 0] rfl)
  exact loop11 (Nn + 1) 0 (Nat.zero_le _) (by omega) _ rfl  _ _ hP hD hS ls (lv_sub hl [1, 2, 3, 4, 5, 0] (by rw [hn]; rfl))
